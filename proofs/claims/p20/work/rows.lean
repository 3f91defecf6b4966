section
-- ===== PART A: goes FIRST, ahead of the names: the tables' words, and 'selects' of the private methods out of them =====
/-- a private method of a class that the tables say can be made, by its rows of tables_1 -/
def lw_okq (q : MethodName × Nat) : Prop := (q.1.cls ≠ "java/lang/invoke/MethodHandle" ∧ q.1.cls ≠ "java/lang/invoke/VarHandle") ∧ Cond.instantiable q.1.cls q.2 ∈ tables_1 ∧ Cond.privateMethod q.1 ∈ tables_1 ∧ Cond.instanceMethod q.1 ∈ tables_1
theorem lw_p0 : lw_okq (⟨"java/lang/Throwable", "fillInStackTrace", "(I)Ljava/lang/Throwable;"⟩, 6) := ⟨⟨by decide +kernel, by decide +kernel⟩, List.mem_of_getElem? (i := 149) (by decide +kernel), List.mem_of_getElem? (i := 147) (by decide +kernel), List.mem_of_getElem? (i := 148) (by decide +kernel)⟩
theorem lw_p1 : lw_okq (⟨"PinnedPantry$Store", "givingShelf", "()I"⟩, 13) := ⟨⟨by decide +kernel, by decide +kernel⟩, List.mem_of_getElem? (i := 23) (by decide +kernel), List.mem_of_getElem? (i := 247) (by decide +kernel), List.mem_of_getElem? (i := 248) (by decide +kernel)⟩
theorem lw_p2 : lw_okq (⟨"PinnedPantry$Store", "recall", "(II)V"⟩, 13) := ⟨⟨by decide +kernel, by decide +kernel⟩, List.mem_of_getElem? (i := 23) (by decide +kernel), List.mem_of_getElem? (i := 402) (by decide +kernel), List.mem_of_getElem? (i := 403) (by decide +kernel)⟩
theorem lw_p3 : lw_okq (⟨"PinnedPantry$Store", "placeNewJar", "(ILPinnedPantry$Row;)V"⟩, 13) := ⟨⟨by decide +kernel, by decide +kernel⟩, List.mem_of_getElem? (i := 23) (by decide +kernel), List.mem_of_getElem? (i := 413) (by decide +kernel), List.mem_of_getElem? (i := 414) (by decide +kernel)⟩
theorem lw_p4 : lw_okq (⟨"PinnedPantry", "requireJar", "(I)V"⟩, 2) := ⟨⟨by decide +kernel, by decide +kernel⟩, List.mem_of_getElem? (i := 15) (by decide +kernel), List.mem_of_getElem? (i := 441) (by decide +kernel), List.mem_of_getElem? (i := 442) (by decide +kernel)⟩
def lw_privs_1 : List (MethodName × Nat) := [(⟨"java/lang/Throwable", "fillInStackTrace", "(I)Ljava/lang/Throwable;"⟩, 6), (⟨"PinnedPantry$Store", "givingShelf", "()I"⟩, 13), (⟨"PinnedPantry$Store", "recall", "(II)V"⟩, 13), (⟨"PinnedPantry$Store", "placeNewJar", "(ILPinnedPantry$Row;)V"⟩, 13), (⟨"PinnedPantry", "requireJar", "(I)V"⟩, 2)]
theorem lw_r1 : ∀ q ∈ lw_privs_1, lw_okq q := List.forall_mem_cons.mpr ⟨lw_p0, List.forall_mem_cons.mpr ⟨lw_p1, List.forall_mem_cons.mpr ⟨lw_p2, List.forall_mem_cons.mpr ⟨lw_p3, List.forall_mem_cons.mpr ⟨lw_p4, fun _ h => absurd h List.not_mem_nil⟩⟩⟩⟩⟩
def lw_privs : List (MethodName × Nat) := lw_privs_1
def lw_tbl : List Cond := k2_sels lw_privs ++ tables_1
theorem lw_privs_ok : ∀ q ∈ lw_privs, lw_okq q := lw_r1
/-- the streams that the claim lets the run draw from -/
abbrev lw_cs : List Choice := [Jvm.Choice.named "NaN.bits"]
theorem lw_bits : nanBits ∈ lw_cs := by first | decide | exact List.mem_cons_self | simp [lw_cs, nanBits]
-- ===== end of PART A; then your names; then what follows =====
end
section
/-! ===== BEGIN words of one list among another's, by their places ===== -/
theorem goodIn_r {big : List Cond} (ws : List Cond) (ps : List Nat) (hp : ws = ps.filterMap (fun i => big[i]?)) (h : ws.all goodWord = true) : GoodIn big ws := by
  intro w hw
  have h1 := List.all_eq_true.mp h w hw
  rw [hp] at hw
  obtain ⟨i, -, hi⟩ := List.mem_filterMap.mp hw
  have hm : w ∈ big := by first | exact List.mem_of_getElem? hi | exact List.getElem?_mem hi
  exact ⟨hm, good_of_word h1⟩
theorem goodIn_app {big a b : List Cond} (ha : GoodIn big a) (hb : GoodIn big b) : GoodIn big (a ++ b) := fun w h => (List.mem_append.mp h).elim (ha w) (hb w)
theorem goodIn_ca {big a b : List Cond} {c : Cond} (ha : GoodIn big (c :: a)) (hb : GoodIn big b) : GoodIn big (c :: (a ++ b)) := fun w h => (List.mem_cons.mp h).elim (fun e => ha w (List.mem_cons.mpr (Or.inl e))) (fun h => (List.mem_append.mp h).elim (fun h => ha w (List.mem_cons.mpr (Or.inr h))) (hb w))
theorem goodIn_sub {big ws : List Cond} (hm : ∀ w ∈ ws, w ∈ big) (h : ws.all goodWord = true) : GoodIn big ws := fun w hw => ⟨hm w hw, good_of_word (List.all_eq_true.mp h w hw)⟩
/-! ===== END ===== -/

/-! ===== BEGIN exceptions that leave a method, and their catching by the caller (launches without stack traces) ===== -/
section VXA
/-! The laws vx_back, vx_callV, vx_callS, vx_callSW, vx_throw0, vx_throwS follow proofs of the library, with one case more: JvmDerived/Free/Laws.lean (Back.of_free), Shelf42/LK1.lean (callV, callS), Shelf/KitTraced.lean (throwNew0V, throwNewS). -/
/-- where a method has thrown q: the class by its name, the cell, what was written, the world -/
def vx_T (XC : String → State → State → Prop) (st : State) (q : Addr) (t : State) (mc ms : Nat) (free : Addr → Prop) : Prop :=
  ∃ (E : String) (ce : Cell) (L : List Loc), XC E st t ∧ t.heap[q]? = some ce ∧ ce.vm = .none ∧ st.vm.findClass E = some ce.cls ∧ st.WarmedH t.vm ∧ st.sameButNew ({ t with vm := st.vm } : State) L mc ms ∧ ∀ z ∈ L, free z.base
def vx_Q (Qc : Array Value → State → Outcome → State → Prop) (XC : String → State → State → Prop) (mc ms : Nat) (free : Addr → Prop) : Array Value → State → Outcome → State → Prop := fun a st o t =>
  (Qc a st o t ∧ ∃ L, FrameEnd st o t L mc ms ∧ ∀ q ∈ L, free q.base) ∨ ∃ q, o = .threw q ∧ vx_T XC st q t mc ms free
/-- a callee that returns or throws -/
def vx_Met (l : Launch) (y : MethodName) (ws : List Cond) (rm : Room) (Pc : Array Value → State → Prop) (Qc : Array Value → State → Outcome → State → Prop) (XC : String → State → State → Prop) (mc ms : Nat) (free : Addr → Prop) : Prop :=
  MetFree l y (headSpec ws rm) Pc (fun _ _ _ _ _ => True) (vx_Q Qc XC mc ms free)
def vx_Post (XC : String → State → State → Prop) (mc ms : Nat) (free : Addr → Prop) : Pt → Array Value → Addr → Pt → Prop := fun A a q B =>
  ∃ (g : JFrame) (mk : MethodId) (t : State) (L : List Loc) (E : String) (ce : Cell), B.U.heap = t.heap ∧ B.U.vm = t.vm ∧ XC E (A.U.calling g mk a) t ∧ t.heap[q]? = some ce ∧ ce.vm = .none ∧ A.U.vm.findClass E = some ce.cls ∧ B.locs = A.locs ++ L ∧ (∀ z ∈ L, free z.base) ∧ B.cells = A.cells + mc ∧ B.slots = A.slots + ms
def vx_Back (l : Launch) (R : Room) (p : Program) (e : Env) (below : List Frame) (s : State) (sargs : Array Value) (y : MethodName) (len W9 : Nat)
    (Pre : Pt → Array Value → Prop) (Post : Pt → Array Value → Option Value → Pt → Prop) (PostX : Pt → Array Value → Addr → Pt → Prop) : Prop :=
  ∀ (m : MethodId) (meth : Method) (c : Code) (A : Pt) (g : JFrame) (ig : Instr) (mk : MethodId) (a : Array Value),
    Stand p l e R s m sargs below meth c A.U A.locs A.cells A.slots → g.method = m → g.locals.size = c.maxLocals → decode c.code g.pc = .ok (ig, len) →
    2 * g.monitorRoom + (g.stack.map fun v => v.category).sum ≤ W9 → A.U.methodNamed? y = some mk → Pre A a →
    (∃ (v : Option Value) (B : Pt), Stand p l e R s m sargs below meth c B.U B.locs B.cells B.slots ∧ Post A a v B ∧
      Steps p.tables e below (doInvoke e (A.U.setTop g) [] mk a).1 (B.U.setTop { g with pc := g.pc + len, stack := v.toList ++ g.stack })) ∨
    (∃ (q : Addr) (B : Pt), Stand p l e R s m sargs below meth c B.U B.locs B.cells B.slots ∧ PostX A a q B ∧
      Steps p.tables e below (doInvoke e (A.U.setTop g) [] mk a).1 ((B.U.setTop g).pushFrame (.throwing q)))
section Payer
variable {l : Launch} {R : Room} {p : Program} {e : Env} {below : List Frame} {s : State} {sargs : Array Value} {y : MethodName} {len W9 : Nat}
theorem vx_back {ws : List Cond} {rm : Room} {Pc : Array Value → State → Prop} {Qc : Array Value → State → Outcome → State → Prop} {XC : String → State → State → Prop} {mc ms : Nat} {free : Addr → Prop} {bytes : ByteArray} {maxL : Nat} {ret : Option FieldType}
    (hM : vx_Met l y ws rm Pc Qc XC mc ms free) (hblind : FrameBlind Pc) (hrc : rm.cells = mc) (hrs : rm.slots = ms)
    (hframes : rm.frames + 1 ≤ R.frames) (hlocals : W9 + (maxL + 11) + rm.locals ≤ R.locals)
    (hws : ∀ w ∈ ws, ∀ a' U, s.WarmedH U.vm → w.before a' U = true) (hcode : Cond.code y bytes maxL ret ∈ ws) (hinit : ∀ a' U, s.WarmedH U.vm → (Cond.initialized y.cls).before a' U = true) :
    vx_Back l R p e below s sargs y len W9 (PreOf R mc ms Pc) (PostOf Qc mc ms free) (vx_Post XC mc ms free) := by
  intro m meth c A g ig mk a X hg hsize hdg hW hn hp
  have h1 : (headSpec ws rm).pre.before a A.U = true := atoms_intro fun w hw => hws w hw _ _ X.warmed
  have h2 : (Cond.code y bytes maxL ret).before a A.U = true := hws _ hcode _ _ X.warmed
  have h3 : (Cond.initialized y.cls).before a A.U = true := hinit _ _ X.warmed
  have h4 : A.cells + (headSpec ws rm).room.cells ≤ R.cells := by rw [show (headSpec ws rm).room.cells = mc from hrc]; exact hp.1
  have h5 : A.slots + (headSpec ws rm).room.slots ≤ R.slots := by rw [show (headSpec ws rm).room.slots = ms from hrs]; exact hp.2.1
  have hPc : Pc a (A.U.calling g mk a) := hblind _ _ _ _ hp.2.2
  obtain ⟨U, Ls, c0, s0⟩ := A
  dsimp only [Pt.U, Pt.locs, Pt.cells, Pt.slots] at h1 h2 h3 h4 h5 X hn hPc ⊢
  obtain ⟨methY, cY, hmY, hcY, -, hlY, -, -, -, -⟩ := Cond.code_spec hn h2
  obtain ⟨kY, hkY, -⟩ := className_of_methodNamed hn
  have hinitY : kY.init = .initialized := Cond.initialized_spec (findClass_of_methodNamed hn) hkY h3
  have h : At U g.method c below := by rw [hg]; exact X.here
  have hlocals9 : W9 + (maxL + 11) + (headSpec ws rm).room.locals ≤ R.locals := hlocals
  have happ : (headSpec ws rm).appliesLoose y e.platform (U.calling g mk a) = true :=
    Spec.appliesLoose_calling (g := g) h hdg hn hkY hinitY
      (X.room_calling (g := g) (R' := (headSpec ws rm).room) hsize hmY hcY hframes (by rw [hlY]; omega) h4 h5) h1
  obtain ⟨mid, hmid⟩ := h.above
  have hfr : (U.setTop g).frames = (.java g :: mid) ++ below := by rw [State.frames_setTop' g h.top, hmid]; rfl
  obtain ⟨o, s₂, hsteps, -, hend, hq⟩ := Steps.callFree hM p X.admits X.cas X.clock (acts := []) hfr happ hPc trivial
  have hq' : vx_Q Qc XC mc ms free a (U.calling g mk a) o s₂ := hq
  rw [State.frames_setTop' g h.top] at hend
  obtain ⟨g₀, hg0⟩ := Option.isSome_iff_exists.mp h.top
  obtain ⟨r, hr⟩ := State.topJava?_eq_some.mp hg0
  have hr' : (({ U with heap := s₂.heap, slotsUsed := s₂.slotsUsed } : State).setVm s₂.vm).frames = .java g₀ :: r := hr
  rcases hq' with ⟨hqc, L, hfe, hL⟩ | ⟨q, rfl, E, ce, L, hx, hce, hcv, hcl, hW₂, hsm, hL⟩
  · obtain ⟨⟨v, rfl⟩, hW₂, e2, q2, q3, q4, q5, q6⟩ := id hfe
    have e3 : s₂ = ({ (U.calling g mk a).setFrames s₂.frames with heap := s₂.heap, slotsUsed := s₂.slotsUsed } : State).setVm s₂.vm := by
      have : s₂ = ({ s₂ with vm := (U.calling g mk a).vm } : State).setVm s₂.vm := rfl
      rw [e2] at this
      exact this
    obtain ⟨c₂, i₂, len₂, hc₂, hd₂, hf₂⟩ := hend
    have hW' : U.WarmedH s₂.vm := hW₂
    have hcc : c₂ = c := by
      have h1 : s₂.code? g.method = U.code? g.method := by
        rw [State.code?_eq, State.code?_eq, hW'.alike.method?]
      exact Option.some.inj (hc₂.symm.trans (h1.trans h.code))
    subst hcc
    have hlen : len₂ = len := by rw [hdg] at hd₂; cases hd₂; rfl
    subst hlen
    have hs₂ : s₂ = (({ U with heap := s₂.heap, slotsUsed := s₂.slotsUsed } : State).setVm s₂.vm).setTop { g with pc := g.pc + len₂, stack := v.toList ++ g.stack } := by
      refine e3.trans ?_
      rw [hf₂, State.calling_eq h.top, State.setFrames_setFrames, State.setTop_of_frames _ hr', hr]
      rfl
    have hsame : U.sameButNew ({ U with heap := s₂.heap, slotsUsed := s₂.slotsUsed } : State) L mc ms := by
      refine ⟨?_, q2, q3, q4, q5, q6⟩
      obtain ⟨t, ht, -⟩ := State.frames_cons hr
      show ({ U with heap := s₂.heap, slotsUsed := s₂.slotsUsed } : State) = { U.setFrames U.frames with heap := s₂.heap, slotsUsed := s₂.slotsUsed }
      rw [State.setFrames_self ht]
    subst hg
    refine Or.inl ⟨v, ⟨(({ U with heap := s₂.heap, slotsUsed := s₂.slotsUsed } : State).setVm s₂.vm), Ls ++ L, c0 + mc, s0 + ms⟩,
      ⟨X.admits, X.cas, X.clock, X.frames, X.room, X.hears, X.method, X.code, (X.here.setHeapUsed s₂.heap s₂.slotsUsed).setVm hW'.alike, X.tail, State.WarmedH.trans X.warmed hW', X.limits, X.bytes, X.same.trans (hsame.setVm s.vm)⟩,
      ⟨g, mk, s₂, L, rfl, rfl, hqc, rfl, hL, rfl, rfl⟩, ?_⟩
    show Steps p.tables e below _ ((({ U with heap := s₂.heap, slotsUsed := s₂.slotsUsed } : State).setVm s₂.vm).setTop { g with pc := g.pc + len₂, stack := v.toList ++ g.stack })
    rw [← hs₂]
    exact hsteps
  · obtain ⟨e2, q2, q3, q4, q5, q6⟩ := id hsm
    have e3 : s₂ = ({ (U.calling g mk a).setFrames s₂.frames with heap := s₂.heap, slotsUsed := s₂.slotsUsed } : State).setVm s₂.vm := by
      have : s₂ = ({ s₂ with vm := (U.calling g mk a).vm } : State).setVm s₂.vm := rfl
      rw [e2] at this
      exact this
    have hf₂ : s₂.frames = .throwing q :: .java g :: U.frames.tail := hend
    have hW' : U.WarmedH s₂.vm := hW₂
    have hs₂ : s₂ = ((({ U with heap := s₂.heap, slotsUsed := s₂.slotsUsed } : State).setVm s₂.vm).setTop g).pushFrame (.throwing q) := by
      refine e3.trans ?_
      rw [hf₂, State.calling_eq h.top, State.setFrames_setFrames, State.pushFrame, State.frames_setTop _ hr', State.setTop_of_frames _ hr', State.setFrames_setFrames, hr]
      rfl
    have hsame : U.sameButNew ({ U with heap := s₂.heap, slotsUsed := s₂.slotsUsed } : State) L mc ms := by
      refine ⟨?_, q2, q3, q4, q5, q6⟩
      obtain ⟨t, ht, -⟩ := State.frames_cons hr
      show ({ U with heap := s₂.heap, slotsUsed := s₂.slotsUsed } : State) = { U.setFrames U.frames with heap := s₂.heap, slotsUsed := s₂.slotsUsed }
      rw [State.setFrames_self ht]
    subst hg
    refine Or.inr ⟨q, ⟨(({ U with heap := s₂.heap, slotsUsed := s₂.slotsUsed } : State).setVm s₂.vm), Ls ++ L, c0 + mc, s0 + ms⟩,
      ⟨X.admits, X.cas, X.clock, X.frames, X.room, X.hears, X.method, X.code, (X.here.setHeapUsed s₂.heap s₂.slotsUsed).setVm hW'.alike, X.tail, State.WarmedH.trans X.warmed hW', X.limits, X.bytes, X.same.trans (hsame.setVm s.vm)⟩,
      ⟨g, mk, s₂, L, E, ce, rfl, rfl, hx, hce, hcv, hcl, rfl, hL, rfl, rfl⟩, ?_⟩
    show Steps p.tables e below _ (((({ U with heap := s₂.heap, slotsUsed := s₂.slotsUsed } : State).setVm s₂.vm).setTop g).pushFrame (.throwing q))
    rw [← hs₂]
    exact hsteps
end Payer
section Calls
variable {p : Program} {l : Launch} {e : Env} {R : Room} {s : State} {m : MethodId} {args : Array Value} {below : List Frame} {meth : Method} {c : Code} {T : State} {locs : List Loc} {cells slots : Nat}
theorem vx_callV (X : Stand p l e R s m args below meth c T locs cells slots) (hexec : p.tables.exec = Jvm.exec) {own C : String} {index : Nat} {y : MethodName} {bytes : ByteArray} {maxL : Nat} {ret : Option FieldType}
    (hown : s.vm.findClass own = some m.cls) (hlink : (Cond.methodLink own index y).before args s = true) (hinst : (Cond.instanceMethod y).before args s = true) (hsel : (Cond.selects C y y).before args s = true)
    (hcode : (Cond.code y bytes maxL ret).before args s = true) (hy : y.cls ≠ "java/lang/invoke/MethodHandle" ∧ y.cls ≠ "java/lang/invoke/VarHandle")
    {W9 : Nat} {Pre : Pt → Array Value → Prop} {Post : Pt → Array Value → Option Value → Pt → Prop} {PostX : Pt → Array Value → Addr → Pt → Prop} (hK : vx_Back l R p e below s args y 3 W9 Pre Post PostX)
    {b : Addr} {cellB : Cell} (hcell : T.heap[b]? = some cellB) (hobj : cellB.vm.isStatics = false) (hcls : s.vm.findClass C = some cellB.cls)
    {g : JFrame} (hg : g.method = m) (hsize : g.locals.size = c.maxLocals) {argsL rest : List Value} (hlen : ∀ sig, parseMethodDescriptor y.desc = some sig → argsL.length = sig.parameters.length)
    (hstack : g.stack = argsL.reverse ++ .ref b :: rest) (hW : 2 * g.monitorRoom + (rest.map fun v => v.category).sum ≤ W9) (hdg : decode c.code g.pc = .ok (.invokevirtual index, 3))
    (hpre : ∀ vm₁, s.WarmedH vm₁ → Pre ⟨T.setVm vm₁, locs, cells, slots⟩ (Value.ref b :: argsL).toArray) :
    (∃ (v : Option Value) (vm₁ : Vm) (B : Pt), s.WarmedH vm₁ ∧ Stand p l e R s m args below meth c B.U B.locs B.cells B.slots ∧ Post ⟨T.setVm vm₁, locs, cells, slots⟩ (Value.ref b :: argsL).toArray v B ∧
      ∀ target, Steps p.tables e below (B.U.setTop { g with pc := g.pc + 3, stack := v.toList ++ rest }) target → Steps p.tables e below (T.setTop g) target) ∨
    (∃ (q : Addr) (vm₁ : Vm) (B : Pt), s.WarmedH vm₁ ∧ Stand p l e R s m args below meth c B.U B.locs B.cells B.slots ∧ PostX ⟨T.setVm vm₁, locs, cells, slots⟩ (Value.ref b :: argsL).toArray q B ∧
      Steps p.tables e below (T.setTop g) ((B.U.setTop { g with stack := rest }).pushFrame (.throwing q))) := by
  obtain ⟨mk, methM, hnamed, hmethM, hstM, habM⟩ := Cond.instanceMethod_spec hinst
  obtain ⟨methM', cM, hmethM', -, -, -, -, -, -, hsigM⟩ := Cond.code_spec hnamed hcode
  cases hmethM.symm.trans hmethM'
  obtain ⟨c2, r2, m2, q1, q2, q3, q4, kP, hkP, hkPi⟩ := Cond.selects_spec hsel
  cases hcls.symm.trans q1
  cases (State.methodFound?_of_named hnamed hy).symm.trans q2
  cases hnamed.symm.trans q3
  have hselP : selectMethod e.platform s.vm cellB.cls mk = .method mk := by rw [Launch.admits_selectMethod X.admits]; exact q4
  obtain ⟨vm₁, X₁, hstep₁⟩ := X.invokevirtual hexec hown hlink hnamed hmethM hstM hkP hkPi hy (a := b) (cell := cellB) hcell
    (fun z h => by rw [h] at hobj; cases hobj) hselP hmethM habM hkP hkPi (g := g) hg (argsL := argsL) (rest := rest) (hlen _ hsigM) hstack hdg
  rcases hK m meth c ⟨T.setVm vm₁, locs, cells, slots⟩ { g with stack := rest } (.invokevirtual index) mk (Value.ref b :: argsL).toArray X₁ hg hsize hdg hW (X₁.named hnamed) (hpre vm₁ X₁.warmed) with ⟨v, B, X', hpost, hsteps⟩ | ⟨q, B, X', hpost, hsteps⟩
  · exact Or.inl ⟨v, vm₁, B, X₁.warmed, X', hpost, fun target h => hstep₁ _ fun acts => by rw [doInvoke_state]; exact hsteps.trans h⟩
  · exact Or.inr ⟨q, vm₁, B, X₁.warmed, X', hpost, hstep₁ _ fun acts => by rw [doInvoke_state]; exact hsteps⟩
theorem vx_callS (X : Stand p l e R s m args below meth c T locs cells slots) (hexec : p.tables.exec = Jvm.exec) {own : String} {index : Nat} {y : MethodName} {bytes : ByteArray} {maxL : Nat} {ret : Option FieldType}
    (hown : s.vm.findClass own = some m.cls) (hlink : (Cond.methodLink own index y).before args s = true) (hstat : (Cond.static y).before args s = true) (hinit : (Cond.initialized y.cls).before args s = true)
    (hcode : (Cond.code y bytes maxL ret).before args s = true) (hy : y.cls ≠ "java/lang/invoke/MethodHandle" ∧ y.cls ≠ "java/lang/invoke/VarHandle")
    {W9 : Nat} {Pre : Pt → Array Value → Prop} {Post : Pt → Array Value → Option Value → Pt → Prop} {PostX : Pt → Array Value → Addr → Pt → Prop} (hK : vx_Back l R p e below s args y 3 W9 Pre Post PostX)
    {g : JFrame} (hg : g.method = m) (hsize : g.locals.size = c.maxLocals) {argsL rest : List Value} (hlen : ∀ sig, parseMethodDescriptor y.desc = some sig → argsL.length = sig.parameters.length)
    (hstack : g.stack = argsL.reverse ++ rest) (hW : 2 * g.monitorRoom + (rest.map fun v => v.category).sum ≤ W9) (hdg : decode c.code g.pc = .ok (.invokestatic index, 3))
    (hpre : ∀ vm₁, s.WarmedH vm₁ → Pre ⟨T.setVm vm₁, locs, cells, slots⟩ argsL.toArray) :
    (∃ (v : Option Value) (vm₁ : Vm) (B : Pt), s.WarmedH vm₁ ∧ Stand p l e R s m args below meth c B.U B.locs B.cells B.slots ∧ Post ⟨T.setVm vm₁, locs, cells, slots⟩ argsL.toArray v B ∧
      ∀ target, Steps p.tables e below (B.U.setTop { g with pc := g.pc + 3, stack := v.toList ++ rest }) target → Steps p.tables e below (T.setTop g) target) ∨
    (∃ (q : Addr) (vm₁ : Vm) (B : Pt), s.WarmedH vm₁ ∧ Stand p l e R s m args below meth c B.U B.locs B.cells B.slots ∧ PostX ⟨T.setVm vm₁, locs, cells, slots⟩ argsL.toArray q B ∧
      Steps p.tables e below (T.setTop g) ((B.U.setTop { g with stack := rest }).pushFrame (.throwing q))) := by
  obtain ⟨mk, hnamed⟩ := Cond.code_named hcode
  obtain ⟨methM, cM, hmethM, -, -, -, -, -, -, hsigM⟩ := Cond.code_spec hnamed hcode
  have hstatic : methM.isStatic = true := Cond.static_spec hnamed hmethM hstat
  obtain ⟨kP, hkP, -⟩ := className_of_methodNamed hnamed
  have hinitP : kP.init = .initialized := Cond.initialized_spec (findClass_of_methodNamed hnamed) hkP hinit
  obtain ⟨vm₁, X₁, hstep₁⟩ := X.invokestatic hexec hown hlink hnamed hmethM hstatic hkP hinitP hy (g := g) hg (argsL := argsL) (rest := rest) (hlen _ hsigM) hstack hdg
  rcases hK m meth c ⟨T.setVm vm₁, locs, cells, slots⟩ { g with stack := rest } (.invokestatic index) mk argsL.toArray X₁ hg hsize hdg hW (X₁.named hnamed) (hpre vm₁ X₁.warmed) with ⟨v, B, X', hpost, hsteps⟩ | ⟨q, B, X', hpost, hsteps⟩
  · exact Or.inl ⟨v, vm₁, B, X₁.warmed, X', hpost, fun target h => hstep₁ _ fun acts => by rw [doInvoke_state]; exact hsteps.trans h⟩
  · exact Or.inr ⟨q, vm₁, B, X₁.warmed, X', hpost, hstep₁ _ fun acts => by rw [doInvoke_state]; exact hsteps⟩
end Calls
theorem vx_cls {s : State} {T : State} {vm₁ : Vm} {E : String} {k : ClassId} (hW : s.WarmedH vm₁) (h : (T.setVm vm₁).vm.findClass E = some k) : s.vm.findClass E = some k := by
  have h1 : vm₁.findClass E = some k := h
  rw [hW.alike.findClass] at h1
  exact h1
/-- the method's frame g, with q thrown over it -/
def vx_W (p : Program) (l : Launch) (e : Env) (R : Room) (s : State) (m : MethodId) (args : Array Value) (below : List Frame) (meth : Method) (c : Code) (H : Heap) (locs : List Loc) (cells slots : Nat) (Q : State → Prop) (g : JFrame) (q : Addr) : Prop :=
  ∀ T : State, T.heap = H → Stand p l e R s m args below meth c T locs cells slots → ∃ t, Steps p.tables e below ((T.setTop g).pushFrame (.throwing q)) t ∧ Q t
def vx_Run (p : Program) (l : Launch) (e : Env) (R : Room) (s : State) (m : MethodId) (args : Array Value) (below : List Frame) (meth : Method) (c : Code) (H : Heap) (locs : List Loc) (cells slots mc ms : Nat) (g : JFrame) (rest : List Value) (Qa : State → Outcome → State → Prop) (XC : String → State → State → Prop) (free : Addr → Prop) : Prop :=
  ∀ T : State, T.heap = H → Stand p l e R s m args below meth c T locs cells slots →
    (∃ (v : Option Value) (st₀ t T' : State) (L : List Loc), st₀.heap = H ∧ Stand p l e R s m args below meth c T' (locs ++ L) (cells + mc) (slots + ms) ∧ (∀ q ∈ L, free q.base) ∧ T'.heap = t.heap ∧ T'.vm = t.vm ∧ Qa st₀ (.returned v) t ∧
      Goes p e below T g T' { g with pc := g.pc + 3, stack := v.toList ++ rest }) ∨
    (∃ (q : Addr) (st₀ t T' : State) (L : List Loc) (E : String) (ce : Cell), st₀.heap = H ∧ Stand p l e R s m args below meth c T' (locs ++ L) (cells + mc) (slots + ms) ∧ (∀ z ∈ L, free z.base) ∧ T'.heap = t.heap ∧ T'.vm = t.vm ∧ XC E st₀ t ∧ t.heap[q]? = some ce ∧ ce.vm = .none ∧ s.vm.findClass E = some ce.cls ∧
      Steps p.tables e below (T.setTop g) ((T'.setTop { g with stack := rest }).pushFrame (.throwing q)))
def vx_X {S : Type} (px : S → Prop) (B : String → S → State → Prop) (A : Nat → Prop) : String → State → State → Prop := fun E st t => ∃ u : S, px u ∧ B E u t ∧ va_F A st t
section Runs
variable {p : Program} {l : Launch} {e : Env} {R : Room} {s : State} {m : MethodId} {args : Array Value} {below : List Frame} {meth : Method} {c : Code} {H : Heap} {locs : List Loc} {cells slots : Nat}
variable {y : MethodName} {bytes cc : ByteArray} {maxL nL mc ms n index : Nat} {ret : Option FieldType} {ws : List Cond} {rm : Room} {Pc : Array Value → State → Prop} {Qc : Array Value → State → Outcome → State → Prop} {XC : String → State → State → Prop} {free : Addr → Prop} {Ts : List Cond} {own C : String} {b : Addr} {As rest : List Value} {g : JFrame}
theorem vx_callBack (cb : CallB R s args own index y bytes maxL ret ws rm mc ms n) (hM : vx_Met l y ws rm Pc Qc XC mc ms free) (hbl : FrameBlind Pc) : vx_Back l R p e below s args y 3 8 (PreOf R mc ms Pc) (PostOf Qc mc ms free) (vx_Post XC mc ms free) := by
  obtain ⟨hrc, hrs, hfr, hlo, hws, hcw, -, hini, -⟩ := cb
  exact vx_back (bytes := bytes) (maxL := maxL) (ret := ret) hM hbl hrc hrs hfr hlo hws hcw (fun a' U hW => word_at hW (Or.inl (by first | rfl | simp [Cond.onTables, Cond.keeps, Cond.steady])) hini)
theorem vx_runV (S : CallFix p m c cc nL s args Ts own) (hM : vx_Met l y ws rm Pc Qc XC mc ms free) (cw : CallW R s args own C index y bytes maxL ret ws rm mc ms n) (hp : PreV s H C b Pc As)
    (hg : g.method = m) (hn : As.length = n) (hsize : g.locals.size = nL) (hstack : g.stack = As.reverse ++ .ref b :: rest) (hW : 2 * g.monitorRoom + (rest.map fun v => v.category).sum ≤ 8) (hdg : decode cc g.pc = .ok (.invokevirtual index, 3)) (hf : cells + mc ≤ R.cells ∧ slots + ms ≤ R.slots) :
    vx_Run p l e R s m args below meth c H locs cells slots mc ms g rest (Qc (Value.ref b :: As).toArray) XC free := by
  have hK : vx_Back l R p e below s args y 3 8 (PreOf R mc ms Pc) (PostOf Qc mc ms free) (vx_Post XC mc ms free) := vx_callBack cw.1 hM hp.1
  obtain ⟨⟨-, -, -, -, -, -, hcode, -, hy, hlen, hl⟩, hin, hse⟩ := cw
  obtain ⟨hx, hb, hml, ho, -⟩ := S
  obtain ⟨-, ⟨cellB, hcB, hoB, hclB⟩, hPc⟩ := hp
  intro T hT X
  rcases vx_callV X hx (C := C) (bytes := bytes) (maxL := maxL) (ret := ret) ho hl hin hse hcode hy hK (by rw [hT]; exact hcB) hoB hclB hg (hsize.trans hml.symm) (argsL := As) (rest := rest) (fun sig h => hn.trans (hlen sig h)) hstack hW (by rw [hb]; exact hdg)
    (fun vm₁ hW₁ => ⟨hf.1, hf.2, hPc (T.setVm vm₁) hT hW₁⟩) with ⟨v, vm₁, ⟨U', l2, c2, s2⟩, hW₁, X', ⟨g', mk, t, L, e1, e2, hq, h1, hL, h2, h3⟩, st⟩ | ⟨q, vm₁, ⟨U', l2, c2, s2⟩, hW₁, X', ⟨g', mk, t, L, E, ce, e1, e2, hq, hce, hcv, hcl, h1, hL, h2, h3⟩, st⟩
  · dsimp only [Pt.U, Pt.locs, Pt.cells, Pt.slots] at X' e1 e2 h1 h2 h3 st
    subst h1; subst h2; subst h3
    exact Or.inl ⟨v, (T.setVm vm₁).calling g' mk (Value.ref b :: As).toArray, t, U', L, hT, X', hL, e1, e2, hq, st⟩
  · dsimp only [Pt.U, Pt.locs, Pt.cells, Pt.slots] at X' e1 e2 h1 h2 h3 st hcl
    subst h1; subst h2; subst h3
    exact Or.inr ⟨q, (T.setVm vm₁).calling g' mk (Value.ref b :: As).toArray, t, U', L, E, ce, hT, X', hL, e1, e2, hq, hce, hcv, vx_cls hW₁ hcl, st⟩
theorem vx_runS (S : CallFix p m c cc nL s args Ts own) (hM : vx_Met l y ws rm Pc Qc XC mc ms free) (cw : CallB R s args own index y bytes maxL ret ws rm mc ms n ∧ (Cond.static y).before args s = true) (hp : PreS s H Pc As)
    (hg : g.method = m) (hn : As.length = n) (hsize : g.locals.size = nL) (hstack : g.stack = As.reverse ++ rest) (hW : 2 * g.monitorRoom + (rest.map fun v => v.category).sum ≤ 8) (hdg : decode cc g.pc = .ok (.invokestatic index, 3)) (hf : cells + mc ≤ R.cells ∧ slots + ms ≤ R.slots) :
    vx_Run p l e R s m args below meth c H locs cells slots mc ms g rest (Qc As.toArray) XC free := by
  have hK : vx_Back l R p e below s args y 3 8 (PreOf R mc ms Pc) (PostOf Qc mc ms free) (vx_Post XC mc ms free) := vx_callBack cw.1 hM hp.1
  obtain ⟨⟨-, -, -, -, -, -, hcode, hini, hy, hlen, hl⟩, hstt⟩ := cw
  obtain ⟨hx, hb, hml, ho, -⟩ := S
  intro T hT X
  rcases vx_callS X hx (bytes := bytes) (maxL := maxL) (ret := ret) ho hl hstt hini hcode hy hK hg (hsize.trans hml.symm) (argsL := As) (rest := rest) (fun sig h => hn.trans (hlen sig h)) hstack hW (by rw [hb]; exact hdg)
    (fun vm₁ hW₁ => ⟨hf.1, hf.2, hp.2 (T.setVm vm₁) hT hW₁⟩) with ⟨v, vm₁, ⟨U', l2, c2, s2⟩, hW₁, X', ⟨g', mk, t, L, e1, e2, hq, h1, hL, h2, h3⟩, st⟩ | ⟨q, vm₁, ⟨U', l2, c2, s2⟩, hW₁, X', ⟨g', mk, t, L, E, ce, e1, e2, hq, hce, hcv, hcl, h1, hL, h2, h3⟩, st⟩
  · dsimp only [Pt.U, Pt.locs, Pt.cells, Pt.slots] at X' e1 e2 h1 h2 h3 st
    subst h1; subst h2; subst h3
    exact Or.inl ⟨v, (T.setVm vm₁).calling g' mk As.toArray, t, U', L, hT, X', hL, e1, e2, hq, st⟩
  · dsimp only [Pt.U, Pt.locs, Pt.cells, Pt.slots] at X' e1 e2 h1 h2 h3 st hcl
    subst h1; subst h2; subst h3
    exact Or.inr ⟨q, (T.setVm vm₁).calling g' mk As.toArray, t, U', L, E, ce, hT, X', hL, e1, e2, hq, hce, hcv, vx_cls hW₁ hcl, st⟩
end Runs
section Rows
variable {p : Program} {l : Launch} {e : Env} {R : Room} {s : State} {m : MethodId} {args : Array Value} {below : List Frame} {meth : Method} {c : Code} {H : Heap} {locs : List Loc} {cells slots : Nat} {Q : State → Prop}
variable {mc ms : Nat} {free : Addr → Prop} {A0 A1 : Nat → Prop} {H0 : Heap} {a : Array Value} {pc : Nat} {ls : Array Slot} {st0 rest : List Value}
theorem vx_keep {st₀ t T' : State} {L : List Loc} (h0 : st₀.heap = H) (e1 : T'.heap = t.heap) (hS : va_S A0 H0 H locs) (hA : ∀ q, q < H.size → A1 q → A0 q) (hf : ∀ q, free q → A0 q) (hL : ∀ q ∈ L, free q.base) (hF : va_F A1 st₀ t) :
    H.size ≤ T'.heap.size ∧ (∀ q : Nat, q < H.size → ¬ A1 q → T'.heap[q]? = H[q]?) ∧ va_S A0 H0 T'.heap (locs ++ L) := by
  obtain ⟨hz, hk⟩ := hF
  rw [h0] at hz hk
  exact ⟨by rw [e1]; exact hz, fun q h1 h2 => by rw [e1]; exact hk q h1 h2,
    ⟨Nat.le_trans hS.1 (by rw [e1]; exact hz), fun q h1 h2 => by rw [e1, hk q (Nat.lt_of_lt_of_le h1 hS.1) (fun z => h2 (hA q (Nat.lt_of_lt_of_le h1 hS.1) z))]; exact hS.2.1 q h1 h2, fun q hq => by
      rcases List.mem_append.mp hq with h | h
      · exact hS.2.2 q h
      · exact hf _ (hL q h)⟩⟩
theorem vx_calli {S SX : Type} {post : Int32 → S → Prop} {px : SX → Prop} {B : S → State → Prop} {BX : String → SX → State → Prop} {AX : Nat → Prop} (hr : vx_Run p l e R s m args below meth c H locs cells slots mc ms (F0 m pc ls st0) rest (va_Qi post B A1 a) (vx_X px BX AX) free) (hS : va_S A0 H0 H locs) (hA : ∀ q, q < H.size → A1 q → A0 q) (hf : ∀ q, free q → A0 q) (hAX : ∀ q, q < H.size → AX q → A0 q)
    (kx : ∀ (E : String) (ce : Cell) (q9 : Addr) (u : SX) (t : State) (H1 : Heap) (locs1 : List Loc), t.heap = H1 → s.vm.Alike t.vm → px u → BX E u t → H.size ≤ H1.size → (∀ q : Nat, q < H.size → ¬ AX q → H1[q]? = H[q]?) → va_S A0 H0 H1 locs1 → H1[q9]? = some ce → ce.vm = .none → s.vm.findClass E = some ce.cls → vx_W p l e R s m args below meth c H1 locs1 (cells + mc) (slots + ms) Q (F0 m pc ls rest) q9)
    (kk : ∀ (r : Int32) (u : S) (t : State) (H1 : Heap) (locs1 : List Loc), t.heap = H1 → s.vm.Alike t.vm → post r u → B u t → H.size ≤ H1.size → (∀ q : Nat, q < H.size → ¬ A1 q → H1[q]? = H[q]?) → va_S A0 H0 H1 locs1 → W p l e R s m args below meth c H1 locs1 (cells + mc) (slots + ms) Q (F0 m (pc + 3) ls (.int r :: rest))) : W p l e R s m args below meth c H locs cells slots Q (F0 m pc ls st0) := by
  intro T hT X
  rcases hr T hT X with ⟨v, st₀, t, T', L, h0, X', hL, e1, e2, ⟨⟨r, u, hv, hp, hb⟩, hF⟩, st⟩ | ⟨q, st₀, t, T', L, E, ce, h0, X', hL, e1, e2, ⟨u, hp, hb, hF⟩, hce, hcv, hcl, st⟩
  · cases hv
    obtain ⟨k1, k2, k3⟩ := vx_keep h0 e1 hS hA hf hL hF
    obtain ⟨t2, a1, b1⟩ := kk r u t T'.heap (locs ++ L) e1.symm (by rw [← e2]; exact X'.warmed.alike) hp hb k1 k2 k3 T' rfl X'
    exact ⟨t2, st t2 a1, b1⟩
  · obtain ⟨k1, k2, k3⟩ := vx_keep h0 e1 hS hAX hf hL hF
    obtain ⟨t2, a1, b1⟩ := kx E ce q u t T'.heap (locs ++ L) e1.symm (by rw [← e2]; exact X'.warmed.alike) hp hb k1 k2 k3 (by rw [e1]; exact hce) hcv hcl T' rfl X'
    exact ⟨t2, st.trans a1, b1⟩
theorem vx_calll {S SX : Type} {post : Int64 → S → Prop} {px : SX → Prop} {B : S → State → Prop} {BX : String → SX → State → Prop} {AX : Nat → Prop} (hr : vx_Run p l e R s m args below meth c H locs cells slots mc ms (F0 m pc ls st0) rest (va_Ql post B A1 a) (vx_X px BX AX) free) (hS : va_S A0 H0 H locs) (hA : ∀ q, q < H.size → A1 q → A0 q) (hf : ∀ q, free q → A0 q) (hAX : ∀ q, q < H.size → AX q → A0 q)
    (kx : ∀ (E : String) (ce : Cell) (q9 : Addr) (u : SX) (t : State) (H1 : Heap) (locs1 : List Loc), t.heap = H1 → s.vm.Alike t.vm → px u → BX E u t → H.size ≤ H1.size → (∀ q : Nat, q < H.size → ¬ AX q → H1[q]? = H[q]?) → va_S A0 H0 H1 locs1 → H1[q9]? = some ce → ce.vm = .none → s.vm.findClass E = some ce.cls → vx_W p l e R s m args below meth c H1 locs1 (cells + mc) (slots + ms) Q (F0 m pc ls rest) q9)
    (kk : ∀ (r : Int64) (u : S) (t : State) (H1 : Heap) (locs1 : List Loc), t.heap = H1 → s.vm.Alike t.vm → post r u → B u t → H.size ≤ H1.size → (∀ q : Nat, q < H.size → ¬ A1 q → H1[q]? = H[q]?) → va_S A0 H0 H1 locs1 → W p l e R s m args below meth c H1 locs1 (cells + mc) (slots + ms) Q (F0 m (pc + 3) ls (.long r :: rest))) : W p l e R s m args below meth c H locs cells slots Q (F0 m pc ls st0) := by
  intro T hT X
  rcases hr T hT X with ⟨v, st₀, t, T', L, h0, X', hL, e1, e2, ⟨⟨r, u, hv, hp, hb⟩, hF⟩, st⟩ | ⟨q, st₀, t, T', L, E, ce, h0, X', hL, e1, e2, ⟨u, hp, hb, hF⟩, hce, hcv, hcl, st⟩
  · cases hv
    obtain ⟨k1, k2, k3⟩ := vx_keep h0 e1 hS hA hf hL hF
    obtain ⟨t2, a1, b1⟩ := kk r u t T'.heap (locs ++ L) e1.symm (by rw [← e2]; exact X'.warmed.alike) hp hb k1 k2 k3 T' rfl X'
    exact ⟨t2, st t2 a1, b1⟩
  · obtain ⟨k1, k2, k3⟩ := vx_keep h0 e1 hS hAX hf hL hF
    obtain ⟨t2, a1, b1⟩ := kx E ce q u t T'.heap (locs ++ L) e1.symm (by rw [← e2]; exact X'.warmed.alike) hp hb k1 k2 k3 (by rw [e1]; exact hce) hcv hcl T' rfl X'
    exact ⟨t2, st.trans a1, b1⟩
theorem vx_callf {S SX : Type} {post : UInt32 → S → Prop} {px : SX → Prop} {B : S → State → Prop} {BX : String → SX → State → Prop} {AX : Nat → Prop} (hr : vx_Run p l e R s m args below meth c H locs cells slots mc ms (F0 m pc ls st0) rest (va_Qf post B A1 a) (vx_X px BX AX) free) (hS : va_S A0 H0 H locs) (hA : ∀ q, q < H.size → A1 q → A0 q) (hf : ∀ q, free q → A0 q) (hAX : ∀ q, q < H.size → AX q → A0 q)
    (kx : ∀ (E : String) (ce : Cell) (q9 : Addr) (u : SX) (t : State) (H1 : Heap) (locs1 : List Loc), t.heap = H1 → s.vm.Alike t.vm → px u → BX E u t → H.size ≤ H1.size → (∀ q : Nat, q < H.size → ¬ AX q → H1[q]? = H[q]?) → va_S A0 H0 H1 locs1 → H1[q9]? = some ce → ce.vm = .none → s.vm.findClass E = some ce.cls → vx_W p l e R s m args below meth c H1 locs1 (cells + mc) (slots + ms) Q (F0 m pc ls rest) q9)
    (kk : ∀ (r : UInt32) (u : S) (t : State) (H1 : Heap) (locs1 : List Loc), t.heap = H1 → s.vm.Alike t.vm → post r u → B u t → H.size ≤ H1.size → (∀ q : Nat, q < H.size → ¬ A1 q → H1[q]? = H[q]?) → va_S A0 H0 H1 locs1 → W p l e R s m args below meth c H1 locs1 (cells + mc) (slots + ms) Q (F0 m (pc + 3) ls (.float r :: rest))) : W p l e R s m args below meth c H locs cells slots Q (F0 m pc ls st0) := by
  intro T hT X
  rcases hr T hT X with ⟨v, st₀, t, T', L, h0, X', hL, e1, e2, ⟨⟨r, u, hv, hp, hb⟩, hF⟩, st⟩ | ⟨q, st₀, t, T', L, E, ce, h0, X', hL, e1, e2, ⟨u, hp, hb, hF⟩, hce, hcv, hcl, st⟩
  · cases hv
    obtain ⟨k1, k2, k3⟩ := vx_keep h0 e1 hS hA hf hL hF
    obtain ⟨t2, a1, b1⟩ := kk r u t T'.heap (locs ++ L) e1.symm (by rw [← e2]; exact X'.warmed.alike) hp hb k1 k2 k3 T' rfl X'
    exact ⟨t2, st t2 a1, b1⟩
  · obtain ⟨k1, k2, k3⟩ := vx_keep h0 e1 hS hAX hf hL hF
    obtain ⟨t2, a1, b1⟩ := kx E ce q u t T'.heap (locs ++ L) e1.symm (by rw [← e2]; exact X'.warmed.alike) hp hb k1 k2 k3 (by rw [e1]; exact hce) hcv hcl T' rfl X'
    exact ⟨t2, st.trans a1, b1⟩
theorem vx_calld {S SX : Type} {post : UInt64 → S → Prop} {px : SX → Prop} {B : S → State → Prop} {BX : String → SX → State → Prop} {AX : Nat → Prop} (hr : vx_Run p l e R s m args below meth c H locs cells slots mc ms (F0 m pc ls st0) rest (va_Qd post B A1 a) (vx_X px BX AX) free) (hS : va_S A0 H0 H locs) (hA : ∀ q, q < H.size → A1 q → A0 q) (hf : ∀ q, free q → A0 q) (hAX : ∀ q, q < H.size → AX q → A0 q)
    (kx : ∀ (E : String) (ce : Cell) (q9 : Addr) (u : SX) (t : State) (H1 : Heap) (locs1 : List Loc), t.heap = H1 → s.vm.Alike t.vm → px u → BX E u t → H.size ≤ H1.size → (∀ q : Nat, q < H.size → ¬ AX q → H1[q]? = H[q]?) → va_S A0 H0 H1 locs1 → H1[q9]? = some ce → ce.vm = .none → s.vm.findClass E = some ce.cls → vx_W p l e R s m args below meth c H1 locs1 (cells + mc) (slots + ms) Q (F0 m pc ls rest) q9)
    (kk : ∀ (r : UInt64) (u : S) (t : State) (H1 : Heap) (locs1 : List Loc), t.heap = H1 → s.vm.Alike t.vm → post r u → B u t → H.size ≤ H1.size → (∀ q : Nat, q < H.size → ¬ A1 q → H1[q]? = H[q]?) → va_S A0 H0 H1 locs1 → W p l e R s m args below meth c H1 locs1 (cells + mc) (slots + ms) Q (F0 m (pc + 3) ls (.double r :: rest))) : W p l e R s m args below meth c H locs cells slots Q (F0 m pc ls st0) := by
  intro T hT X
  rcases hr T hT X with ⟨v, st₀, t, T', L, h0, X', hL, e1, e2, ⟨⟨r, u, hv, hp, hb⟩, hF⟩, st⟩ | ⟨q, st₀, t, T', L, E, ce, h0, X', hL, e1, e2, ⟨u, hp, hb, hF⟩, hce, hcv, hcl, st⟩
  · cases hv
    obtain ⟨k1, k2, k3⟩ := vx_keep h0 e1 hS hA hf hL hF
    obtain ⟨t2, a1, b1⟩ := kk r u t T'.heap (locs ++ L) e1.symm (by rw [← e2]; exact X'.warmed.alike) hp hb k1 k2 k3 T' rfl X'
    exact ⟨t2, st t2 a1, b1⟩
  · obtain ⟨k1, k2, k3⟩ := vx_keep h0 e1 hS hAX hf hL hF
    obtain ⟨t2, a1, b1⟩ := kx E ce q u t T'.heap (locs ++ L) e1.symm (by rw [← e2]; exact X'.warmed.alike) hp hb k1 k2 k3 (by rw [e1]; exact hce) hcv hcl T' rfl X'
    exact ⟨t2, st.trans a1, b1⟩
theorem vx_callv {S SX : Type} {post : S → Prop} {px : SX → Prop} {B : S → State → Prop} {BX : String → SX → State → Prop} {AX : Nat → Prop} (hr : vx_Run p l e R s m args below meth c H locs cells slots mc ms (F0 m pc ls st0) rest (va_Qv post B A1 a) (vx_X px BX AX) free) (hS : va_S A0 H0 H locs) (hA : ∀ q, q < H.size → A1 q → A0 q) (hf : ∀ q, free q → A0 q) (hAX : ∀ q, q < H.size → AX q → A0 q)
    (kx : ∀ (E : String) (ce : Cell) (q9 : Addr) (u : SX) (t : State) (H1 : Heap) (locs1 : List Loc), t.heap = H1 → s.vm.Alike t.vm → px u → BX E u t → H.size ≤ H1.size → (∀ q : Nat, q < H.size → ¬ AX q → H1[q]? = H[q]?) → va_S A0 H0 H1 locs1 → H1[q9]? = some ce → ce.vm = .none → s.vm.findClass E = some ce.cls → vx_W p l e R s m args below meth c H1 locs1 (cells + mc) (slots + ms) Q (F0 m pc ls rest) q9)
    (kk : ∀ (u : S) (t : State) (H1 : Heap) (locs1 : List Loc), t.heap = H1 → s.vm.Alike t.vm → post u → B u t → H.size ≤ H1.size → (∀ q : Nat, q < H.size → ¬ A1 q → H1[q]? = H[q]?) → va_S A0 H0 H1 locs1 → W p l e R s m args below meth c H1 locs1 (cells + mc) (slots + ms) Q (F0 m (pc + 3) ls (rest))) : W p l e R s m args below meth c H locs cells slots Q (F0 m pc ls st0) := by
  intro T hT X
  rcases hr T hT X with ⟨v, st₀, t, T', L, h0, X', hL, e1, e2, ⟨⟨u, hv, hp, hb⟩, hF⟩, st⟩ | ⟨q, st₀, t, T', L, E, ce, h0, X', hL, e1, e2, ⟨u, hp, hb, hF⟩, hce, hcv, hcl, st⟩
  · cases hv
    obtain ⟨k1, k2, k3⟩ := vx_keep h0 e1 hS hA hf hL hF
    obtain ⟨t2, a1, b1⟩ := kk u t T'.heap (locs ++ L) e1.symm (by rw [← e2]; exact X'.warmed.alike) hp hb k1 k2 k3 T' rfl X'
    exact ⟨t2, st t2 a1, b1⟩
  · obtain ⟨k1, k2, k3⟩ := vx_keep h0 e1 hS hAX hf hL hF
    obtain ⟨t2, a1, b1⟩ := kx E ce q u t T'.heap (locs ++ L) e1.symm (by rw [← e2]; exact X'.warmed.alike) hp hb k1 k2 k3 (by rw [e1]; exact hce) hcv hcl T' rfl X'
    exact ⟨t2, st.trans a1, b1⟩
/-- caught by the row x of this method's table; the rows ahead don't take it -/
theorem vx_catch {own name : String} {E : String} {ce : Cell} {q : Addr} (hown : s.vm.findClass own = some m.cls) (pre : List ExceptionTableEntry) (x : ExceptionTableEntry) (suf : List ExceptionTableEntry) (hsplit : c.exceptionTable.toList = pre ++ x :: suf)
    (hpass : ∀ z ∈ pre, covers z pc = false ∨ (z.catchType ≠ 0 ∧ ∃ nm : String, (Cond.classLink own z.catchType nm).before args s = true ∧ va_Nc E nm s)) (hx : covers x pc = true) (h0 : x.catchType ≠ 0)
    (hlink : (Cond.classLink own x.catchType name).before args s = true) (hcast : (Cond.castable E name).before args s = true) (hcell : H[q]? = some ce) (hv : ce.vm = .none) (hcl : s.vm.findClass E = some ce.cls)
    (kk : W p l e R s m args below meth c H locs cells slots Q (F0 m x.handlerPc ls [.ref q])) : vx_W p l e R s m args below meth c H locs cells slots Q (F0 m pc ls rest) q := by
  intro T hT X
  have hpl : e.platform.magicAccessors = ({} : Platform).magicAccessors := by rw [X.admits.platform]
  obtain ⟨c3, c4, hc3, hc4, hasg⟩ := Cond.castable_spec hcast
  cases Option.some.inj (hc3.symm.trans hcl)
  obtain ⟨c5, hc5, hcl5⟩ := Cond.classLink_spec hown hlink e.platform hpl
  cases Option.some.inj (hc4.symm.trans hc5)
  obtain ⟨vm', X', st⟩ := X.thenCaughtThrough q (g := F0 m pc ls rest) rfl (Steps.refl _) (by rw [hT]; exact hcell) (by rw [hv]; rfl) (by obtain ⟨k9, h9, -⟩ := Vm.findClass_spec hcl; exact ⟨k9, h9⟩) pre x suf hsplit
    (fun z hz => by
      rcases hpass z hz with h | ⟨hz0, nm, hl1, hn1⟩
      · exact Or.inl h
      · obtain ⟨c6, hc6, hcl6⟩ := Cond.classLink_spec hown hl1 e.platform hpl
        obtain ⟨a8, b8, h1, h2, h3⟩ := hn1
        cases Option.some.inj (h1.symm.trans hcl)
        cases Option.some.inj (h2.symm.trans hc6)
        exact Or.inr ⟨hz0, _, hcl6, h3⟩) hx (Or.inr ⟨h0, c4, hcl5, hasg⟩)
  obtain ⟨t, a1, b1⟩ := kk (T.setVm vm') hT X'
  exact ⟨t, st.trans a1, b1⟩
end Rows
section Ends
variable {p : Program} {l : Launch} {e : Env} {R : Room} {s : State} {m : MethodId} {args : Array Value} {below : List Frame} {meth : Method} {c : Code} {H : Heap} {locs : List Loc} {cells slots : Nat} {Q : State → Prop}
variable {mc ms : Nat} {free : Addr → Prop} {A0 A1 : Nat → Prop} {H0 : Heap} {a : Array Value} {ls : Array Slot} {st0 rest : List Value}
variable {Qc : Array Value → State → Outcome → State → Prop} {XC : String → State → State → Prop}
/-- what a body that may throw owes at its end -/
def vx_MQ (below : List Frame) (Qc : Array Value → State → Outcome → State → Prop) (XC : String → State → State → Prop) (a : Array Value) (s : State) (mc ms : Nat) (free : Addr → Prop) : State → Prop := fun t =>
  ∃ o, t.status = .running ∧ Ended t below o ∧ vx_Q Qc XC mc ms free a s o t
theorem vx_ret {g : JFrame} {mc ms : Nat} (k : W p l e R s m args below meth c H locs cells slots (MQ below Qc args s mc ms free) g) : W p l e R s m args below meth c H locs cells slots (vx_MQ below Qc XC args s mc ms free) g := by
  intro T hT X
  obtain ⟨t, a1, o, b1, b2, b3, b4⟩ := k T hT X
  exact ⟨t, a1, o, b1, b2, Or.inl ⟨b3, b4⟩⟩
/-- not caught here: it goes on to the caller -/
theorem vx_widen {g : JFrame} {q : Addr} {k n : Nat} (h1 : cells ≤ k) (h2 : slots ≤ n) (kk : vx_W p l e R s m args below meth c H locs k n Q g q) : vx_W p l e R s m args below meth c H locs cells slots Q g q := fun T hT X => kk T hT (stand_widen X h1 h2)
theorem vx_out {pc : Nat} {E : String} {ce : Cell} {q : Addr} {mc ms : Nat} (hout : ∀ x ∈ c.exceptionTable.toList, covers x pc = false) (hlocks : meth.locks = false) (hcell : H[q]? = some ce) (hv : ce.vm = .none) (hcl : s.vm.findClass E = some ce.cls)
    (hx : ∀ t : State, t.heap = H → s.vm.Alike t.vm → XC E s t) (hf : ∀ z ∈ locs, free z.base) (hc : cells ≤ mc) (hs : slots ≤ ms) :
    vx_W p l e R s m args below meth c H locs cells slots (vx_MQ below Qc XC args s mc ms free) (F0 m pc ls rest) q := by
  intro T hT X
  obtain ⟨st1, hrun, hend, hW, hsm⟩ := X.leaveThrown q (g := F0 m pc ls rest) rfl rfl rfl hout hlocks
  have hcell9 : (T.setFrames (.throwing q :: below)).heap[q]? = some ce := by
    show T.heap[q]? = some ce
    rw [hT]; exact hcell
  exact ⟨_, st1, .threw q, hrun, hend, Or.inr ⟨q, rfl, E, ce, locs, hx _ hT hW.alike, hcell9, hv, hcl, hW, hsm.mono hc hs, hf⟩⟩
theorem vx_frame {U : State} {k n : Nat} (h : s.sameButNew ({ U with vm := s.vm } : State) locs k n) : s.heap.size ≤ U.heap.size ∧ ∀ q : Nat, q < s.heap.size → (∀ z ∈ locs, z.base ≠ q) → U.heap[q]? = s.heap[q]? := by
  obtain ⟨-, h2, -, -, -, h6⟩ := h
  refine ⟨h2, fun q hq hz => ?_⟩
  obtain ⟨c9, e1, e2, e3, e4⟩ := h6 q _ (Array.getElem?_eq_getElem hq)
  have hs : c9.slots = (s.heap[q]).slots := Array.ext_getElem? fun i => e4 i fun hm => hz _ hm rfl
  have h9 : c9 = s.heap[q] := by
    rw [hs] at e2
    exact e2
  have e5 : U.heap[q]? = some c9 := e1
  rw [e5, h9, Array.getElem?_eq_getElem hq]
/-- the words of a throw but the four that speak of the heap -/
def vx_no (w : Cond) : Bool := decide (w ≠ .isRef (.static Bundle.tN "UNASSIGNED_STACK" Bundle.steD)) && decide (w ≠ .isRef (.static Bundle.tN "SUPPRESSED_SENTINEL" Bundle.listD)) && decide (w ≠ .laysStatic Bundle.tN "UNASSIGNED_STACK" Bundle.steD) && decide (w ≠ .laysStatic Bundle.tN "SUPPRESSED_SENTINEL" Bundle.listD)
def vx_at0 (own : String) (ic : Nat) (X : String) (names : List String) : List Cond := (Bundle.ownAtoms0 own ic X names).filter vx_no
def vx_atS (own : String) (ic : Nat) (X : String) (names : List String) : List Cond := (Bundle.ownAtoms own ic X names).filter vx_no
/-- a word that the tables alone decide, or a good one -/
def vx_ot (w : Cond) : Bool := w.onTables || goodWord w
theorem vx_ot_at {args a' : Array Value} {s U : State} {w : Cond} (hW : s.WarmedH U.vm) (hvm : s.vm = U.vm) (hg : vx_ot w = true) (h : w.before args s = true) : w.before a' U = true := by
  simp only [vx_ot, Bool.or_eq_true] at hg
  rcases hg with hg | hg
  · exact va_tabs hg hvm h
  · exact word_at hW (good_of_word hg) h
/-- a list's words: the good ones out of the method's own list, the others by premises of their own -/
theorem vx_hat {args : Array Value} {s : State} {L B : List Cond} (h1 : ∀ w ∈ L.filter goodWord, w.before args s = true) (h2 : ∀ w ∈ L.filter (fun w => !goodWord w), w ∈ B) (h3 : ∀ w ∈ B, w.before args s = true) : ∀ w ∈ L, w.before args s = true := by
  intro w hw
  by_cases g : goodWord w = true
  · exact h1 w (List.mem_filter.mpr ⟨hw, g⟩)
  · refine h3 w (h2 w (List.mem_filter.mpr ⟨hw, ?_⟩))
    show (!goodWord w) = true
    cases hgw : goodWord w
    · rfl
    · exact absurd hgw g
theorem vx_c {args : Array Value} {s : State} {w : Cond} {B : List Cond} (h : w.before args s = true) (t : ∀ w ∈ B, w.before args s = true) : ∀ w' ∈ w :: B, w'.before args s = true := fun w' h' => (List.mem_cons.mp h').elim (fun e => by rw [e]; exact h) (t w')
theorem vx_n {args : Array Value} {s : State} : ∀ w ∈ ([] : List Cond), w.before args s = true := fun _ h => nomatch h
theorem vx_own {args : Array Value} {s : State} {L : List Cond} (h1 : ∀ w ∈ L.filter vx_no, w.before args s = true)
    (hU : (Cond.isRef (.static Bundle.tN "UNASSIGNED_STACK" Bundle.steD)).before args s = true) (hN : (Cond.isRef (.static Bundle.tN "SUPPRESSED_SENTINEL" Bundle.listD)).before args s = true)
    (lU : (Cond.laysStatic Bundle.tN "UNASSIGNED_STACK" Bundle.steD).before args s = true) (lN : (Cond.laysStatic Bundle.tN "SUPPRESSED_SENTINEL" Bundle.listD).before args s = true) : ∀ w ∈ L, w.before args s = true := by
  intro w hw
  by_cases e1 : w = .isRef (.static Bundle.tN "UNASSIGNED_STACK" Bundle.steD)
  · rw [e1]; exact hU
  · by_cases e2 : w = .isRef (.static Bundle.tN "SUPPRESSED_SENTINEL" Bundle.listD)
    · rw [e2]; exact hN
    · by_cases e3 : w = .laysStatic Bundle.tN "UNASSIGNED_STACK" Bundle.steD
      · rw [e3]; exact lU
      · by_cases e4 : w = .laysStatic Bundle.tN "SUPPRESSED_SENTINEL" Bundle.listD
        · rw [e4]; exact lN
        · exact h1 w (List.mem_filter.mpr ⟨hw, by unfold vx_no; rw [decide_eq_true e1, decide_eq_true e2, decide_eq_true e3, decide_eq_true e4]; rfl⟩)
/-- where a static field lies, its class's statics cell in H -/
def vx_L (C n d : String) (A : Nat → Prop) (U : State) (H : Heap) : Prop := ∃ (c : ClassId) (k : Class) (i : Nat) (f : Field) (a : Nat) (cell : Cell), U.vm.findClass C = some c ∧ U.fieldFound? C n d = some (c, k, i, f) ∧ f.isStatic = true ∧ k.statics = some a ∧ H[a]? = some cell ∧ cell.vm.isStatics = true ∧ cell.cls = c ∧ f.slot < cell.slots.size ∧ k.staticTypes[f.slot]? = some f.type ∧ ¬ A a
theorem vx_L.moved {C n d : String} {A : Nat → Prop} {u U : State} {H : Heap} (hvm : u.vm.Alike U.vm) (h : vx_L C n d A u H) : vx_L C n d A U H := by
  obtain ⟨c, k, i, f, a, cell, h1, h2, h3, h4, h5, h6, h7, h8, h9, h10⟩ := h
  obtain ⟨k', hi', he⟩ := State.fieldFound?_setVm hvm h2
  exact ⟨c, k', i, f, a, cell, by rw [hvm.findClass]; exact h1, hi', h3, by rw [he]; exact h4, h5, h6, h7, h8, by rw [he]; exact h9, h10⟩
theorem vx_L.kept {C n d : String} {A : Nat → Prop} {U : State} {H H1 : Heap} (h : vx_L C n d A U H) (hq : ∀ a : Nat, a < H.size → ¬ A a → H1[a]? = H[a]?) : vx_L C n d A U H1 := by
  obtain ⟨c, k, i, f, a, cell, h1, h2, h3, h4, h5, h6, h7, h8, h9, h10⟩ := h
  exact ⟨c, k, i, f, a, cell, h1, h2, h3, h4, by rw [hq a (Array.getElem?_eq_some_iff.mp h5).1 h10]; exact h5, h6, h7, h8, h9, h10⟩
theorem vx_L.narrow {C n d : String} {A B : Nat → Prop} {U : State} {H : Heap} (h : vx_L C n d A U H) (hAB : ∀ q, B q → A q) : vx_L C n d B U H := by
  obtain ⟨c, k, i, f, a, cell, h1, h2, h3, h4, h5, h6, h7, h8, h9, h10⟩ := h
  exact ⟨c, k, i, f, a, cell, h1, h2, h3, h4, h5, h6, h7, h8, h9, fun z => h10 (hAB _ z)⟩
theorem vx_L.word {C n d : String} {A : Nat → Prop} {s : State} {args : Array Value} (h : vx_L C n d A s s.heap) : (Cond.laysStatic C n d).before args s = true := by
  obtain ⟨c, k, i, f, a, cell, h1, h2, h3, h4, h5, h6, h7, h8, h9, -⟩ := h
  show (Cond.laysStatic C n d).holds args s none s [] = true
  exact Cond.laysStatic_of h1 h2 h3 h4 h5 h6 h7 h8 h9
/-- .. and what it holds: null or some reference -/
def vx_Zq (C n d : String) (A : Nat → Prop) (U : State) (H : Heap) : Prop := va_Zq C n d A U H ∧ vx_L C n d A U H
theorem vx_Zq.moved {C n d : String} {A : Nat → Prop} {u U : State} {H : Heap} (hvm : u.vm.Alike U.vm) (h : vx_Zq C n d A u H) : vx_Zq C n d A U H := ⟨va_Zq.moved hvm h.1, vx_L.moved hvm h.2⟩
theorem vx_Zq.kept {C n d : String} {A : Nat → Prop} {U : State} {H H1 : Heap} (h : vx_Zq C n d A U H) (hq : ∀ a : Nat, a < H.size → ¬ A a → H1[a]? = H[a]?) : vx_Zq C n d A U H1 := ⟨va_Zq.kept h.1 hq, vx_L.kept h.2 hq⟩
theorem vx_Zq.narrow {C n d : String} {A B : Nat → Prop} {U : State} {H : Heap} (h : vx_Zq C n d A U H) (hAB : ∀ q, B q → A q) : vx_Zq C n d B U H := ⟨va_Zq.narrow h.1 hAB, vx_L.narrow h.2 hAB⟩
theorem vx_Zqof {args : Array Value} {s : State} {C n d : String} {A : Nat → Prop} (hl : (Cond.laysStatic C n d).before args s = true) (hini : (Cond.initialized C).before args s = true) (h : (Cond.isRef (.static C n d)).before args s = true) (hA : ∀ a : Nat, a < s.heap.size → ¬ A a) : vx_Zq C n d A s s.heap := by
  refine ⟨va_Zqof hl hini h hA, ?_⟩
  obtain ⟨c, k, i, f, a, cell, h1, h2, h3, h4, h5, h6, h7, h8, h9⟩ := Cond.laysStatic_spec hl
  exact ⟨c, k, i, f, a, cell, h1, h2, h3, h4, h5, h6, h7, h8, h9, hA a (Array.getElem?_eq_some_iff.mp h5).1⟩
theorem vx_isRef {C n d : String} {v : Value} {A : Nat → Prop} {s : State} {args : Array Value} (h : va_Z C n d v A s s.heap) (hv : v.isRef = true) : (Cond.isRef (.static C n d)).before args s = true := by
  obtain ⟨cf, kf, fi, f, a, cell, h1, h2, h3, h4, h5, h6, h7, -⟩ := h
  have he : (Term.static C n d).eval args s none [] s = some v := by
    simp [Term.eval, State.fieldNamed?, h1, h2, h4, h5, h6, h7]
  simp only [Cond.before, Cond.holds, Cond.value, he]
  cases v <;> simp_all [Value.isRef]
theorem vx_isRefq {C n d : String} {A : Nat → Prop} {s : State} {args : Array Value} (h : va_Zq C n d A s s.heap) : (Cond.isRef (.static C n d)).before args s = true := by
  rcases h with h | ⟨t, h⟩
  · exact vx_isRef h rfl
  · exact vx_isRef h rfl
/-- the same frame, seen from here: as if the method were called anew in this heap -/
theorem vx_rebase {T : State} (X : Stand p l e R s m args below meth c T locs cells slots) {R' : Room} (hf : R'.frames ≤ R.frames) (hl : R'.locals ≤ R.locals) (hc : cells + R'.cells ≤ R.cells) (hs : slots + R'.slots ≤ R.slots) :
    Stand p l e R' ((T.setVm s.vm).setFrames (.invoking m args :: below)) m args below meth c T [] 0 0 := by
  have htop : (T.setVm s.vm).topJava?.isSome := X.here.top
  have hF : ((T.setVm s.vm).setFrames (.invoking m args :: below)).frames = .invoking m args :: below := State.frames_setFrames _ (State.cur_lt_of_top htop)
  obtain ⟨g₀, hg0⟩ := Option.isSome_iff_exists.mp htop
  obtain ⟨r, hr⟩ := State.topJava?_eq_some.mp hg0
  have hl9 : e.platform.stackLimits (T.setVm s.vm).me = e.platform.stackLimits s.me := X.limits
  have hb9 : (T.setVm s.vm).me.stackBytes = s.me.stackBytes := X.bytes
  refine ⟨X.admits, X.cas, X.clock, hF, ?_, X.hears, X.method, X.code, X.here, X.tail, X.warmed, ?_, ?_, ?_⟩
  · have h := X.room
    have hU : ((T.setVm s.vm).setFrames (.invoking m args :: below)).localsInUse = s.localsInUse := by
      rw [State.localsInUse_invoking hF (meth := meth) (c := c) X.method X.code, State.localsInUse_invoking X.frames X.method X.code]
    simp only [State.hasRoom, Bool.and_eq_true, decide_eq_true_eq] at h ⊢
    obtain ⟨⟨⟨⟨h1, h2, h3, h4, h5, h6⟩, h7⟩, h8⟩, h9⟩ := h
    rw [X.frames, List.length_cons] at h2 h3
    have q1 := X.heapSize
    have q2 := X.used
    simp only [hF, hU, List.length_cons, State.stackLimits_setFrames, State.stackBytes_setFrames, hl9, hb9]
    refine ⟨⟨⟨⟨by omega, by omega, by omega, by omega, by omega, h6⟩, ?_⟩, ?_⟩, X.book⟩
    · show T.heap.size + R'.cells ≤ e.platform.maxCells
      omega
    · show T.slotsUsed + R'.slots ≤ e.platform.maxSlots
      omega
  · rw [State.stackLimits_setFrames]; rfl
  · rw [State.stackBytes_setFrames]; rfl
  · refine ⟨?_, Nat.le_refl _, Nat.le_refl _, ?_, ?_, fun a c9 h9 => ⟨c9, h9, rfl, rfl, fun _ _ => rfl⟩⟩
    · obtain ⟨t, ht, -⟩ := State.frames_cons hr
      show T.setVm s.vm = { ((T.setVm s.vm).setFrames (.invoking m args :: below)).setFrames (T.setVm s.vm).frames with heap := T.heap, slotsUsed := T.slotsUsed }
      rw [State.setFrames_setFrames, State.setFrames_self ht]
      rfl
    · show T.slotsUsed = T.slotsUsed + ((T.heap.toList.drop T.heap.size).map (·.slots.size)).sum
      rw [List.drop_eq_nil_of_le (Nat.le_of_eq Array.length_toList)]
      rfl
    · show ((T.heap.toList.drop T.heap.size).map (·.slots.size)).sum ≤ 0
      rw [List.drop_eq_nil_of_le (Nat.le_of_eq Array.length_toList)]
      exact Nat.le_refl _
/-- 'throw new E()': new; dup; invokespecial; athrow -/
theorem vx_throw0 {cc : ByteArray} {pc : Nat} (hexec : p.tables.exec = Jvm.exec) (hb : c.code = cc) (hl : l.stackTraces = false) {own cls : String} {names : List String} {ik ic mc ms : Nat} {A : Nat → Prop}
    (hown : s.vm.findClass own = some m.cls) (hcls : Bundle.fit cls = true) (hnames : ∀ n ∈ names, Bundle.fit n = true)
    (hk : (Cond.classLink own ik cls).before args s = true) (hini : (Cond.initialized cls).before args s = true) (hat : ∀ w ∈ vx_at0 own ic cls names, w.before args s = true)
    (hgood : ∀ w ∈ Cond.classLink own ik cls :: Cond.initialized cls :: vx_at0 own ic cls names, vx_ot w = true)
    (hU : vx_Zq Bundle.tN "UNASSIGNED_STACK" Bundle.steD A s s.heap) (hN : vx_Zq Bundle.tN "SUPPRESSED_SENTINEL" Bundle.listD A s s.heap) (hS : va_S A s.heap H locs) (hsize : ls.size = c.maxLocals)
    (d0 : decode cc pc = .ok (.new ik, 3)) (d3 : decode cc (pc + 3) = .ok (.dup, 1)) (d4 : decode cc (pc + 4) = .ok (.invokespecial ic, 3)) (d7 : decode cc (pc + 7) = .ok (.athrow, 1))
    (hout : ∀ x ∈ c.exceptionTable.toList, covers x (pc + 7) = false)
    (hRframes : names.length + 3 < R.frames) (hRlocals : (rest.map fun v => v.category).sum + (13 * (names.length + 1) + 42) ≤ R.locals) (hRcells : cells + 1 ≤ R.cells) (hRslots : slots + 6 ≤ R.slots) (hlocks : meth.locks = false)
    (hx : ∀ t : State, s.vm.Alike t.vm → H.size ≤ t.heap.size → (∀ q : Nat, q < H.size → t.heap[q]? = H[q]?) → XC cls s t)
    (hf : ∀ z ∈ locs, free z.base) (hc : cells + 1 ≤ mc) (hs : slots + 6 ≤ ms) :
    W p l e R s m args below meth c H locs cells slots (vx_MQ below Qc XC args s mc ms free) (F0 m pc ls rest) := by
  intro T hT X
  have htr : e.platform.stackTraces = false := (show e.platform.stackTraces = l.stackTraces by rw [X.admits.platform]).trans hl
  have Y := vx_rebase X (R' := { frames := R.frames, locals := R.locals, cells := 1, slots := 6 }) (Nat.le_refl _) (Nat.le_refl _) hRcells hRslots
  obtain ⟨s', hA⟩ : ∃ z, z = (T.setVm s.vm).setFrames (.invoking m args :: below) := ⟨_, rfl⟩
  rw [← hA] at Y
  have hvm : s'.vm = s.vm := by rw [hA]; rfl
  have hhp : s'.heap = H := by rw [hA]; exact hT
  have hW0 : s.WarmedH s'.vm := by rw [hvm]; exact State.WarmedH.refl s
  have hat' : ∀ w ∈ vx_at0 own ic cls names, w.before args s' = true := fun w hw => vx_ot_at hW0 hvm.symm (hgood w (List.mem_cons_of_mem _ (List.mem_cons_of_mem _ hw))) (hat w hw)
  have hk' : (Cond.classLink own ik cls).before args s' = true := vx_ot_at hW0 hvm.symm (hgood _ List.mem_cons_self) hk
  have hini' : (Cond.initialized cls).before args s' = true := vx_ot_at hW0 hvm.symm (hgood _ (List.mem_cons_of_mem _ List.mem_cons_self)) hini
  have hU' : vx_Zq Bundle.tN "UNASSIGNED_STACK" Bundle.steD A s' s'.heap := by rw [hhp]; exact vx_Zq.moved hW0.alike (hU.kept hS.2.1)
  have hN' : vx_Zq Bundle.tN "SUPPRESSED_SENTINEL" Bundle.listD A s' s'.heap := by rw [hhp]; exact vx_Zq.moved hW0.alike (hN.kept hS.2.1)
  have h : ∀ w ∈ Bundle.ownAtoms0 own ic cls names, w.before args s' = true := vx_own hat' (vx_isRefq hU'.1) (vx_isRefq hN'.1) hU'.2.word hN'.2.word
  have hown' : s'.vm.findClass own = some m.cls := by rw [hvm]; exact hown
  have hins : (Cond.instantiable cls 6).before args s' = true := h _ (by simp [Bundle.ownAtoms0])
  obtain ⟨vm₁, cX, kX, hfX, hkX, -, -, X₁, st1⟩ := Y.newCold hexec (own := own) (C := cls) (index := ik) (n := 6) hown' hk' hins hini'
    (g := F0 m pc ls rest) rfl (by rw [hb]; exact d0) (Nat.le_refl _) (Nat.le_refl _)
  generalize hT1 : (T.setVm vm₁).pushCell { cls := cX, slots := kX.instanceTypes.map defaultValue, vm := .none } = T1 at X₁ st1
  have hcat : (Value.ref T.heap.size).category = 1 := rfl
  have hcellA : T1.heap[T.heap.size]? = some (freshCell cX kX) := by rw [← hT1]; exact State.heap_pushCell_size _ _
  have d3' : decode c.code (pc + 3) = .ok (.dup, 1) := by rw [hb]; exact d3
  obtain ⟨U, hsteps, hrun, hend, hW, hsame, ce, hce, hO⟩ := X₁.ctorThrow0 hexec htr (own := own) (cls := cls) (names := names) (ic := ic) hown' hcls hnames h (fun x hx => nomatch hx) hfX hkX hcellA (by rw [hhp, hT]; exact Nat.le_refl _)
    (g := { method := m, pc := pc + 4, locals := ls, stack := .ref T.heap.size :: .ref T.heap.size :: rest, locked := none }) rfl hsize rfl rfl (rest := rest) rfl
    (by rw [hb]; exact d4) (by rw [hb]; exact d7) hout hRframes (by simp only [List.map_cons, List.sum_cons, hcat]; omega) hlocks
  obtain ⟨f1, f2⟩ := vx_frame hsame
  rw [hhp] at f1 f2
  have hWs : s.WarmedH U.vm := State.WarmedH.trans hW0 hW
  have hcl : s.vm.findClass cls = some ce.cls := by
    have h9 := hO.cls
    rw [hvm] at h9
    exact h9
  have hall : s.sameButNew ({ U with vm := s.vm } : State) locs mc ms := by
    subst hA
    obtain ⟨e1, e2⟩ := hsame
    rw [State.setFrames_setFrames] at e1
    have h2 : (T.setVm s.vm).sameButNew ({ U with vm := s.vm } : State) [] (0 + 1) (0 + 6) := ⟨e1, e2⟩
    have h3 := X.same.trans h2
    rw [List.append_nil] at h3
    exact h3.mono hc hs
  refine ⟨U, ?_, .threw T.heap.size, hrun, hend, Or.inr ⟨T.heap.size, rfl, cls, ce, locs, hx U hWs.alike f1 (fun q hq => f2 q hq (fun z hz => nomatch hz)), hce, hO.vm, hcl, hWs, hall, hf⟩⟩
  refine st1 _ ?_
  show Steps p.tables e below (T1.setTop { method := m, pc := pc + 3, locals := ls, stack := .ref T.heap.size :: rest, locked := none }) _
  jvm_step X₁.here [X₁.here.top, hexec, d3', Value.category]
  exact hsteps
/-- 'throw new E("text")': new; dup; ldc; invokespecial; athrow -/
theorem vx_throwS {cc : ByteArray} {pc : Nat} (hexec : p.tables.exec = Jvm.exec) (hb : c.code = cc) (hl : l.stackTraces = false) {own cls text : String} {names : List String} {ik is ic mc ms sa : Nat} {A : Nat → Prop}
    (hown : s.vm.findClass own = some m.cls) (hcls : Bundle.fit cls = true) (hnames : ∀ n ∈ names, Bundle.fit n = true)
    (hk : (Cond.classLink own ik cls).before args s = true) (hini : (Cond.initialized cls).before args s = true) (hstr : vk_R own is text sa s) (hat : ∀ w ∈ vx_atS own ic cls names, w.before args s = true)
    (hgood : ∀ w ∈ Cond.classLink own ik cls :: Cond.initialized cls :: vx_atS own ic cls names, vx_ot w = true)
    (hU : vx_Zq Bundle.tN "UNASSIGNED_STACK" Bundle.steD A s s.heap) (hN : vx_Zq Bundle.tN "SUPPRESSED_SENTINEL" Bundle.listD A s s.heap) (hS : va_S A s.heap H locs) (hsize : ls.size = c.maxLocals)
    (d0 : decode cc pc = .ok (.new ik, 3)) (d3 : decode cc (pc + 3) = .ok (.dup, 1)) (d4 : decode cc (pc + 4) = .ok (.ldc is, 2)) (d6 : decode cc (pc + 6) = .ok (.invokespecial ic, 3)) (d9 : decode cc (pc + 9) = .ok (.athrow, 1))
    (hout : ∀ x ∈ c.exceptionTable.toList, covers x (pc + 9) = false)
    (hRframes : names.length + 3 < R.frames) (hRlocals : (rest.map fun v => v.category).sum + (13 * (names.length + 1) + 43) ≤ R.locals) (hRcells : cells + 1 ≤ R.cells) (hRslots : slots + 6 ≤ R.slots) (hlocks : meth.locks = false)
    (hx : ∀ t : State, s.vm.Alike t.vm → H.size ≤ t.heap.size → (∀ q : Nat, q < H.size → t.heap[q]? = H[q]?) → XC cls s t)
    (hf : ∀ z ∈ locs, free z.base) (hc : cells + 1 ≤ mc) (hs : slots + 6 ≤ ms) :
    W p l e R s m args below meth c H locs cells slots (vx_MQ below Qc XC args s mc ms free) (F0 m pc ls rest) := by
  intro T hT X
  have htr : e.platform.stackTraces = false := (show e.platform.stackTraces = l.stackTraces by rw [X.admits.platform]).trans hl
  have Y := vx_rebase X (R' := { frames := R.frames, locals := R.locals, cells := 1, slots := 6 }) (Nat.le_refl _) (Nat.le_refl _) hRcells hRslots
  obtain ⟨s', hA⟩ : ∃ z, z = (T.setVm s.vm).setFrames (.invoking m args :: below) := ⟨_, rfl⟩
  rw [← hA] at Y
  have hvm : s'.vm = s.vm := by rw [hA]; rfl
  have hhp : s'.heap = H := by rw [hA]; exact hT
  have hW0 : s.WarmedH s'.vm := by rw [hvm]; exact State.WarmedH.refl s
  have hat' : ∀ w ∈ vx_atS own ic cls names, w.before args s' = true := fun w hw => vx_ot_at hW0 hvm.symm (hgood w (List.mem_cons_of_mem _ (List.mem_cons_of_mem _ hw))) (hat w hw)
  have hk' : (Cond.classLink own ik cls).before args s' = true := vx_ot_at hW0 hvm.symm (hgood _ List.mem_cons_self) hk
  have hini' : (Cond.initialized cls).before args s' = true := vx_ot_at hW0 hvm.symm (hgood _ (List.mem_cons_of_mem _ List.mem_cons_self)) hini
  have hU' : vx_Zq Bundle.tN "UNASSIGNED_STACK" Bundle.steD A s' s'.heap := by rw [hhp]; exact vx_Zq.moved hW0.alike (hU.kept hS.2.1)
  have hN' : vx_Zq Bundle.tN "SUPPRESSED_SENTINEL" Bundle.listD A s' s'.heap := by rw [hhp]; exact vx_Zq.moved hW0.alike (hN.kept hS.2.1)
  have h : ∀ w ∈ Bundle.ownAtoms own ic cls names, w.before args s' = true := vx_own hat' (vx_isRefq hU'.1) (vx_isRefq hN'.1) hU'.2.word hN'.2.word
  have hown' : s'.vm.findClass own = some m.cls := by rw [hvm]; exact hown
  have hins : (Cond.instantiable cls 6).before args s' = true := h _ (by simp [Bundle.ownAtoms])
  obtain ⟨vm₁, cX, kX, hfX, hkX, -, -, X₁, st1⟩ := Y.newCold hexec (own := own) (C := cls) (index := ik) (n := 6) hown' hk' hins hini'
    (g := F0 m pc ls rest) rfl (by rw [hb]; exact d0) (Nat.le_refl _) (Nat.le_refl _)
  generalize hT1 : (T.setVm vm₁).pushCell { cls := cX, slots := kX.instanceTypes.map defaultValue, vm := .none } = T1 at X₁ st1
  have hcat : (Value.ref T.heap.size).category = 1 := rfl
  have hcellA : T1.heap[T.heap.size]? = some (freshCell cX kX) := by rw [← hT1]; exact State.heap_pushCell_size _ _
  have d3' : decode c.code (pc + 3) = .ok (.dup, 1) := by rw [hb]; exact d3
  have d4' : decode c.code (pc + 4) = .ok (.ldc is, 2) := by rw [hb]; exact d4
  have hstr' : vk_R own is text sa s' := vk_R.warm hW0 hstr
  obtain ⟨U, hsteps, hrun, hend, hW, hsame, ce, hce, hO⟩ := X₁.ctorThrowS hexec htr (own := own) (cls := cls) (names := names) (ic := ic) hown' hcls hnames h (fun x hx => nomatch hx) hfX hkX hcellA (by rw [hhp, hT]; exact Nat.le_refl _) (msg := .ref sa) rfl
    (g := { method := m, pc := pc + 6, locals := ls, stack := .ref sa :: .ref T.heap.size :: .ref T.heap.size :: rest, locked := none }) rfl hsize rfl rfl (rest := rest) rfl
    (by rw [hb]; exact d6) (by rw [hb]; exact d9) hout hRframes (by simp only [List.map_cons, List.sum_cons, hcat]; omega) hlocks
  obtain ⟨f1, f2⟩ := vx_frame hsame
  rw [hhp] at f1 f2
  have hWs : s.WarmedH U.vm := State.WarmedH.trans hW0 hW
  have hcl : s.vm.findClass cls = some ce.cls := by
    have h9 := hO.cls
    rw [hvm] at h9
    exact h9
  have hall : s.sameButNew ({ U with vm := s.vm } : State) locs mc ms := by
    subst hA
    obtain ⟨e1, e2⟩ := hsame
    rw [State.setFrames_setFrames] at e1
    have h2 : (T.setVm s.vm).sameButNew ({ U with vm := s.vm } : State) [] (0 + 1) (0 + 6) := ⟨e1, e2⟩
    have h3 := X.same.trans h2
    rw [List.append_nil] at h3
    exact h3.mono hc hs
  refine ⟨U, ?_, .threw T.heap.size, hrun, hend, Or.inr ⟨T.heap.size, rfl, cls, ce, locs, hx U hWs.alike f1 (fun q hq => f2 q hq (fun z hz => nomatch hz)), hce, hO.vm, hcl, hWs, hall, hf⟩⟩
  refine st1 _ ?_
  show Steps p.tables e below (T1.setTop { method := m, pc := pc + 3, locals := ls, stack := .ref T.heap.size :: rest, locked := none }) _
  jvm_step X₁.here [X₁.here.top, hexec, d3', Value.category]
  exact X₁.ldcString hexec (own := own) (text := text) (index := is) (a := sa) hown' hstr'.1 hstr'.2
    (g := { method := m, pc := pc + 4, locals := ls, stack := .ref T.heap.size :: .ref T.heap.size :: rest, locked := none }) rfl d4' _ hsteps
/-- 'throw new E("text")', the text by a wide index -/
theorem vx_throwSW {cc : ByteArray} {pc : Nat} (hexec : p.tables.exec = Jvm.exec) (hb : c.code = cc) (hl : l.stackTraces = false) {own cls text : String} {names : List String} {ik is ic mc ms sa : Nat} {A : Nat → Prop}
    (hown : s.vm.findClass own = some m.cls) (hcls : Bundle.fit cls = true) (hnames : ∀ n ∈ names, Bundle.fit n = true)
    (hk : (Cond.classLink own ik cls).before args s = true) (hini : (Cond.initialized cls).before args s = true) (hstr : vk_R own is text sa s) (hat : ∀ w ∈ vx_atS own ic cls names, w.before args s = true)
    (hgood : ∀ w ∈ Cond.classLink own ik cls :: Cond.initialized cls :: vx_atS own ic cls names, vx_ot w = true)
    (hU : vx_Zq Bundle.tN "UNASSIGNED_STACK" Bundle.steD A s s.heap) (hN : vx_Zq Bundle.tN "SUPPRESSED_SENTINEL" Bundle.listD A s s.heap) (hS : va_S A s.heap H locs) (hsize : ls.size = c.maxLocals)
    (d0 : decode cc pc = .ok (.new ik, 3)) (d3 : decode cc (pc + 3) = .ok (.dup, 1)) (d4 : decode cc (pc + 4) = .ok (.ldc_w is, 3)) (d7 : decode cc (pc + 7) = .ok (.invokespecial ic, 3)) (d10 : decode cc (pc + 10) = .ok (.athrow, 1))
    (hout : ∀ x ∈ c.exceptionTable.toList, covers x (pc + 10) = false)
    (hRframes : names.length + 3 < R.frames) (hRlocals : (rest.map fun v => v.category).sum + (13 * (names.length + 1) + 43) ≤ R.locals) (hRcells : cells + 1 ≤ R.cells) (hRslots : slots + 6 ≤ R.slots) (hlocks : meth.locks = false)
    (hx : ∀ t : State, s.vm.Alike t.vm → H.size ≤ t.heap.size → (∀ q : Nat, q < H.size → t.heap[q]? = H[q]?) → XC cls s t)
    (hf : ∀ z ∈ locs, free z.base) (hc : cells + 1 ≤ mc) (hs : slots + 6 ≤ ms) :
    W p l e R s m args below meth c H locs cells slots (vx_MQ below Qc XC args s mc ms free) (F0 m pc ls rest) := by
  intro T hT X
  have htr : e.platform.stackTraces = false := (show e.platform.stackTraces = l.stackTraces by rw [X.admits.platform]).trans hl
  have Y := vx_rebase X (R' := { frames := R.frames, locals := R.locals, cells := 1, slots := 6 }) (Nat.le_refl _) (Nat.le_refl _) hRcells hRslots
  obtain ⟨s', hA⟩ : ∃ z, z = (T.setVm s.vm).setFrames (.invoking m args :: below) := ⟨_, rfl⟩
  rw [← hA] at Y
  have hvm : s'.vm = s.vm := by rw [hA]; rfl
  have hhp : s'.heap = H := by rw [hA]; exact hT
  have hW0 : s.WarmedH s'.vm := by rw [hvm]; exact State.WarmedH.refl s
  have hat' : ∀ w ∈ vx_atS own ic cls names, w.before args s' = true := fun w hw => vx_ot_at hW0 hvm.symm (hgood w (List.mem_cons_of_mem _ (List.mem_cons_of_mem _ hw))) (hat w hw)
  have hk' : (Cond.classLink own ik cls).before args s' = true := vx_ot_at hW0 hvm.symm (hgood _ List.mem_cons_self) hk
  have hini' : (Cond.initialized cls).before args s' = true := vx_ot_at hW0 hvm.symm (hgood _ (List.mem_cons_of_mem _ List.mem_cons_self)) hini
  have hU' : vx_Zq Bundle.tN "UNASSIGNED_STACK" Bundle.steD A s' s'.heap := by rw [hhp]; exact vx_Zq.moved hW0.alike (hU.kept hS.2.1)
  have hN' : vx_Zq Bundle.tN "SUPPRESSED_SENTINEL" Bundle.listD A s' s'.heap := by rw [hhp]; exact vx_Zq.moved hW0.alike (hN.kept hS.2.1)
  have h : ∀ w ∈ Bundle.ownAtoms own ic cls names, w.before args s' = true := vx_own hat' (vx_isRefq hU'.1) (vx_isRefq hN'.1) hU'.2.word hN'.2.word
  have hown' : s'.vm.findClass own = some m.cls := by rw [hvm]; exact hown
  have hins : (Cond.instantiable cls 6).before args s' = true := h _ (by simp [Bundle.ownAtoms])
  obtain ⟨vm₁, cX, kX, hfX, hkX, -, -, X₁, st1⟩ := Y.newCold hexec (own := own) (C := cls) (index := ik) (n := 6) hown' hk' hins hini'
    (g := F0 m pc ls rest) rfl (by rw [hb]; exact d0) (Nat.le_refl _) (Nat.le_refl _)
  generalize hT1 : (T.setVm vm₁).pushCell { cls := cX, slots := kX.instanceTypes.map defaultValue, vm := .none } = T1 at X₁ st1
  have hcat : (Value.ref T.heap.size).category = 1 := rfl
  have hcellA : T1.heap[T.heap.size]? = some (freshCell cX kX) := by rw [← hT1]; exact State.heap_pushCell_size _ _
  have d3' : decode c.code (pc + 3) = .ok (.dup, 1) := by rw [hb]; exact d3
  have d4' : decode c.code (pc + 4) = .ok (.ldc_w is, 3) := by rw [hb]; exact d4
  have hstr' : vk_R own is text sa s' := vk_R.warm hW0 hstr
  obtain ⟨U, hsteps, hrun, hend, hW, hsame, ce, hce, hO⟩ := X₁.ctorThrowS hexec htr (own := own) (cls := cls) (names := names) (ic := ic) hown' hcls hnames h (fun x hx => nomatch hx) hfX hkX hcellA (by rw [hhp, hT]; exact Nat.le_refl _) (msg := .ref sa) rfl
    (g := { method := m, pc := pc + 7, locals := ls, stack := .ref sa :: .ref T.heap.size :: .ref T.heap.size :: rest, locked := none }) rfl hsize rfl rfl (rest := rest) rfl
    (by rw [hb]; exact d7) (by rw [hb]; exact d10) hout hRframes (by simp only [List.map_cons, List.sum_cons, hcat]; omega) hlocks
  obtain ⟨f1, f2⟩ := vx_frame hsame
  rw [hhp] at f1 f2
  have hWs : s.WarmedH U.vm := State.WarmedH.trans hW0 hW
  have hcl : s.vm.findClass cls = some ce.cls := by
    have h9 := hO.cls
    rw [hvm] at h9
    exact h9
  have hall : s.sameButNew ({ U with vm := s.vm } : State) locs mc ms := by
    subst hA
    obtain ⟨e1, e2⟩ := hsame
    rw [State.setFrames_setFrames] at e1
    have h2 : (T.setVm s.vm).sameButNew ({ U with vm := s.vm } : State) [] (0 + 1) (0 + 6) := ⟨e1, e2⟩
    have h3 := X.same.trans h2
    rw [List.append_nil] at h3
    exact h3.mono hc hs
  refine ⟨U, ?_, .threw T.heap.size, hrun, hend, Or.inr ⟨T.heap.size, rfl, cls, ce, locs, hx U hWs.alike f1 (fun q hq => f2 q hq (fun z hz => nomatch hz)), hce, hO.vm, hcl, hWs, hall, hf⟩⟩
  refine st1 _ ?_
  show Steps p.tables e below (T1.setTop { method := m, pc := pc + 3, locals := ls, stack := .ref T.heap.size :: rest, locked := none }) _
  jvm_step X₁.here [X₁.here.top, hexec, d3', Value.category]
  exact X₁.ldcStringW hexec (own := own) (text := text) (index := is) (a := sa) hown' hstr'.1 hstr'.2
    (g := { method := m, pc := pc + 4, locals := ls, stack := .ref T.heap.size :: .ref T.heap.size :: rest, locked := none }) rfl d4' _ hsteps
end Ends
section Bodies
variable {l : Launch}
theorem vx_ofW {y : MethodName} {ws ws' : List Cond} {rm : Room} {Pc : Array Value → State → Prop} {Qc : Array Value → State → Outcome → State → Prop} {XC : String → State → State → Prop} {mc ms : Nat} {free : Addr → Prop} {cc : ByteArray} {maxL : Nat} {ret : Option FieldType}
    (hy : plainName y.cls = true) (hw : ws = Cond.code y cc maxL ret :: ws')
    (body : ∀ p e s m args below meth c s₁, BodyLoose p l y (headSpec ws rm) cc maxL ret e s m args below meth c s₁ → c.maxLocals = maxL → (∀ x ∈ c.exceptionTable.toList, False) → Pc args s →
      W p l e (headSpec ws rm).room s m args below meth c s.heap [] 0 0 (vx_MQ below Qc XC args s mc ms free) (entryFrame m args maxL)) : vx_Met l y ws rm Pc Qc XC mc ms free := by
  refine MetFree.of_bodyS (code := cc) (maxLocals := maxL) (ret := ret) hy ?_ ?_
  · intro args s m h hn
    obtain ⟨meth, c, h1, h2, h3, h4, h5, h6, -, -⟩ := Cond.code_spec hn (atoms_spec (ws := ws) h _ (by rw [hw]; exact List.mem_cons_self))
    exact ⟨meth, c, h1, h2, h3, h4, h5, h6⟩
  · intro p e s m args below meth c s₁ B hml hP _
    have hh0 : s₁.heap = s.heap := by rw [B.state]; rfl
    have ht : ∀ x ∈ c.exceptionTable.toList, False := by
      obtain ⟨meth9, c9, h1, h2, -, -, -, -, h7, -⟩ := Cond.code_spec B.named (atoms_spec (ws := ws) B.pre _ (by rw [hw]; exact List.mem_cons_self))
      cases Option.some.inj (h1.symm.trans B.method)
      cases Option.some.inj (h2.symm.trans (Stand.of_body B).code)
      intro x hx
      rw [Array.isEmpty_iff.mp h7] at hx
      cases hx
    obtain ⟨t, a1, o, b1, b2, b3⟩ := body p e s m args below meth c s₁ B hml ht hP s₁ hh0 (Stand.of_body B)
    exact ⟨t, o, a1, b1, b2, b3⟩
/-- the table of a body with handlers -/
theorem vx_table {p : Program} {x y : MethodName} {S : Spec} {cc bytes : ByteArray} {maxL maxL' : Nat} {ret ret' : Option FieldType} {e : Env} {s s₁ : State} {m : MethodId} {args : Array Value} {below : List Frame} {meth : Method} {c : Code} {hh : List (Nat × Nat × Nat × Nat)}
    (B : BodyLoose p l y S cc maxL ret e s m args below meth c s₁) (h : (Cond.codeWith y bytes maxL' ret' hh).before args s = true) : c.exceptionTable.toList = tableOf hh := by
  obtain ⟨m9, meth9, c9, hn9, h1, h2, -, -, h6, -⟩ := Cond.codeWith_spec h
  cases Option.some.inj (hn9.symm.trans B.named)
  cases Option.some.inj (h1.symm.trans B.method)
  cases Option.some.inj (h2.symm.trans (Stand.of_body B).code)
  rw [← h6, table_eq]
end Bodies
end VXA
/-! ===== END ===== -/
/-! ===== BEGIN a static call of a method with an exception table ===== -/
section VXS
variable {p : Program} {l : Launch} {e : Env} {R : Room} {s : State} {m : MethodId} {args : Array Value} {below : List Frame} {meth : Method} {c : Code} {T : State} {H : Heap} {locs : List Loc} {cells slots : Nat}
abbrev vx_CSW (R : Room) (s : State) (args : Array Value) (own : String) (index : Nat) (y : MethodName) (bytes : ByteArray) (maxL : Nat) (ret : Option FieldType) (hh : List (Nat × Nat × Nat × Nat)) (ws : List Cond) (rm : Room) (mc ms n : Nat) : Prop :=
  (rm.cells = mc ∧ rm.slots = ms ∧ rm.frames + 1 ≤ R.frames ∧ 8 + (maxL + 11) + rm.locals ≤ R.locals ∧ (∀ w ∈ ws, ∀ (a' : Array Value) (U : State), s.WarmedH U.vm → w.before a' U = true) ∧ Cond.codeWith y bytes maxL ret hh ∈ ws) ∧
  (Cond.codeWith y bytes maxL ret hh).before args s = true ∧ (Cond.initialized y.cls).before args s = true ∧ (y.cls ≠ "java/lang/invoke/MethodHandle" ∧ y.cls ≠ "java/lang/invoke/VarHandle") ∧
  (∀ sig, parseMethodDescriptor y.desc = some sig → n = sig.parameters.length) ∧ (Cond.methodLink own index y).before args s = true ∧ (Cond.static y).before args s = true
theorem vx_cwSW {own : String} {index maxL mc ms : Nat} {y : MethodName} {bytes : ByteArray} {ret : Option FieldType} {hh : List (Nat × Nat × Nat × Nat)} {Ts ws ws' : List Cond} {rm : Room} (n : Nat) (ht : ∀ w ∈ Ts, w.before args s = true) (hT : GoodIn Ts (va_wsS own index y ws)) (hw : ws = Cond.codeWith y bytes maxL ret hh :: ws') (hrc : rm.cells = mc) (hrs : rm.slots = ms)
    (hd : y.cls ≠ "java/lang/invoke/MethodHandle" ∧ y.cls ≠ "java/lang/invoke/VarHandle" ∧ (parseMethodDescriptor y.desc).map (fun d => d.parameters.length) = some n) (hR : rm.frames + 1 ≤ R.frames ∧ 8 + (maxL + 11) + rm.locals ≤ R.locals) :
    vx_CSW R s args own index y bytes maxL ret hh ws rm mc ms n := by
  have ok : ∀ w ∈ va_wsS own index y ws, w.before args s = true := fun w h => ht w (hT w h).1
  have hG : GoodIn Ts ws := fun w h => hT w (by unfold va_wsS; exact List.mem_append_right _ h)
  have hc : Cond.codeWith y bytes maxL ret hh ∈ ws := by rw [hw]; exact List.mem_cons_self
  refine ⟨⟨hrc, hrs, hR.1, hR.2, pay_in ht hG, hc⟩, ht _ (hG _ hc).1, ok _ (by simp [va_wsS]), ⟨hd.1, hd.2.1⟩, fun sig h => ?_, ok _ (by simp [va_wsS]), ok _ (by simp [va_wsS])⟩
  have h2 := hd.2.2
  rw [h] at h2
  exact (Option.some.inj h2).symm
theorem vx_callSW (X : Stand p l e R s m args below meth c T locs cells slots) (hexec : p.tables.exec = Jvm.exec) {own : String} {index : Nat} {y : MethodName} {bytes : ByteArray} {maxL : Nat} {ret : Option FieldType} {hh : List (Nat × Nat × Nat × Nat)}
    (hown : s.vm.findClass own = some m.cls) (hlink : (Cond.methodLink own index y).before args s = true) (hstat : (Cond.static y).before args s = true) (hinit : (Cond.initialized y.cls).before args s = true)
    (hcode : (Cond.codeWith y bytes maxL ret hh).before args s = true) (hy : y.cls ≠ "java/lang/invoke/MethodHandle" ∧ y.cls ≠ "java/lang/invoke/VarHandle")
    {W9 : Nat} {Pre : Pt → Array Value → Prop} {Post : Pt → Array Value → Option Value → Pt → Prop} (hK : Back l R p e below s args y 3 W9 Pre Post)
    {g : JFrame} (hg : g.method = m) (hsize : g.locals.size = c.maxLocals) {argsL rest : List Value} (hlen : ∀ sig, parseMethodDescriptor y.desc = some sig → argsL.length = sig.parameters.length)
    (hstack : g.stack = argsL.reverse ++ rest) (hW : 2 * g.monitorRoom + (rest.map fun v => v.category).sum ≤ W9) (hdg : decode c.code g.pc = .ok (.invokestatic index, 3))
    (hpre : ∀ vm₁, s.WarmedH vm₁ → Pre ⟨T.setVm vm₁, locs, cells, slots⟩ argsL.toArray) :
    ∃ (v : Option Value) (vm₁ : Vm) (B : Pt), s.WarmedH vm₁ ∧ Stand p l e R s m args below meth c B.U B.locs B.cells B.slots ∧ Post ⟨T.setVm vm₁, locs, cells, slots⟩ argsL.toArray v B ∧
      ∀ target, Steps p.tables e below (B.U.setTop { g with pc := g.pc + 3, stack := v.toList ++ rest }) target → Steps p.tables e below (T.setTop g) target := by
  obtain ⟨mk, methM, cM, hnamed, hmethM, -, -, -, -, -, -, hsigM⟩ := Cond.codeWith_spec hcode
  have hstatic : methM.isStatic = true := Cond.static_spec hnamed hmethM hstat
  obtain ⟨kP, hkP, -⟩ := className_of_methodNamed hnamed
  have hinitP : kP.init = .initialized := Cond.initialized_spec (findClass_of_methodNamed hnamed) hkP hinit
  obtain ⟨vm₁, X₁, hstep₁⟩ := X.invokestatic hexec hown hlink hnamed hmethM hstatic hkP hinitP hy (g := g) hg (argsL := argsL) (rest := rest) (hlen _ hsigM) hstack hdg
  obtain ⟨v, B, X', hpost, hsteps⟩ := hK m meth c ⟨T.setVm vm₁, locs, cells, slots⟩ { g with stack := rest } (.invokestatic index) mk argsL.toArray X₁ hg hsize hdg hW (X₁.named hnamed) (hpre vm₁ X₁.warmed)
  exact ⟨v, vm₁, B, X₁.warmed, X', hpost, fun target h => hstep₁ _ fun acts => by rw [doInvoke_state]; exact hsteps.trans h⟩
theorem vx_runSW {y : MethodName} {bytes cc : ByteArray} {maxL nL mc ms n index : Nat} {ret : Option FieldType} {hh : List (Nat × Nat × Nat × Nat)} {ws : List Cond} {rm : Room} {Pc : Array Value → State → Prop} {Qc : Array Value → State → Outcome → State → Prop} {free : Addr → Prop} {Ts : List Cond} {own : String} {As rest : List Value} {g : JFrame}
    (S : CallFix p m c cc nL s args Ts own) (hM : Met l y ws rm Pc Qc mc ms free) (cw : vx_CSW R s args own index y bytes maxL ret hh ws rm mc ms n) (hp : PreS s H Pc As)
    (hg : g.method = m) (hn : As.length = n) (hsize : g.locals.size = nL) (hstack : g.stack = As.reverse ++ rest) (hW : 2 * g.monitorRoom + (rest.map fun v => v.category).sum ≤ 8) (hdg : decode cc g.pc = .ok (.invokestatic index, 3)) (hf : cells + mc ≤ R.cells ∧ slots + ms ≤ R.slots) :
    va_Run p l e R s m args below meth c H locs cells slots mc ms g rest (Qc As.toArray) (free) := by
  obtain ⟨⟨hrc, hrs, hfr, hlo, hws, hcw⟩, hcode, hini, hy, hlen, hl, hstt⟩ := cw
  have hK : Back l R p e below s args y 3 8 (PreOf R mc ms Pc) (PostOf Qc mc ms free) := va_backW (hh := hh) (bytes := bytes) (maxL := maxL) (ret := ret) hM hp.1 hrc hrs hfr hlo hws hcw (fun a' U hW => word_at hW (Or.inl (by first | rfl | simp [Cond.onTables, Cond.keeps, Cond.steady])) hini)
  obtain ⟨hx, hb, hml, ho, -⟩ := S
  intro T hT X
  obtain ⟨v, vm₁, ⟨U', l2, c2, s2⟩, hW₁, X', ⟨g', mk, t, L, e1, e2, hq, h1, hL, h2, h3⟩, st⟩ := vx_callSW X hx (hh := hh) (bytes := bytes) (maxL := maxL) (ret := ret) ho hl hstt hini hcode hy hK hg (hsize.trans hml.symm) (argsL := As) (rest := rest) (fun sig h => hn.trans (hlen sig h)) hstack hW (by rw [hb]; exact hdg)
    (fun vm₁ hW₁ => ⟨hf.1, hf.2, hp.2 (T.setVm vm₁) hT hW₁⟩)
  dsimp only [Pt.U, Pt.locs, Pt.cells, Pt.slots] at X' e1 e2 h1 h2 h3 st
  subst h1; subst h2; subst h3
  exact ⟨v, (T.setVm vm₁).calling g' mk As.toArray, t, U', L, hT, X', hL, e1, e2, hq, st⟩
/-- not caught here, past rows that name other classes: it goes on to the caller -/
theorem vx_outP {p : Program} {l : Launch} {e : Env} {R : Room} {s : State} {m : MethodId} {args : Array Value} {below : List Frame} {meth : Method} {c : Code} {H : Heap} {locs : List Loc} {cells slots : Nat} {free : Addr → Prop} {ls : Array Slot} {rest : List Value} {Qc : Array Value → State → Outcome → State → Prop} {XC : String → State → State → Prop}
    {pc : Nat} {own E : String} {ce : Cell} {q : Addr} {mc ms : Nat} (hown : s.vm.findClass own = some m.cls) (hlocks : meth.locks = false)
    (hpass : ∀ z ∈ c.exceptionTable.toList, covers z pc = false ∨ (z.catchType ≠ 0 ∧ ∃ nm : String, (Cond.classLink own z.catchType nm).before args s = true ∧ va_Nc E nm s)) (hcell : H[q]? = some ce) (hv : ce.vm = .none) (hcl : s.vm.findClass E = some ce.cls)
    (hx : ∀ t : State, t.heap = H → s.vm.Alike t.vm → XC E s t) (hf : ∀ z ∈ locs, free z.base) (hc : cells ≤ mc) (hs : slots ≤ ms) :
    vx_W p l e R s m args below meth c H locs cells slots (vx_MQ below Qc XC args s mc ms free) (F0 m pc ls rest) q := by
  intro T hT X
  have hpl : e.platform.magicAccessors = ({} : Platform).magicAccessors := by rw [X.admits.platform]
  obtain ⟨vm', hW', X', st⟩ := X.outThrough hlocks q (g := F0 m pc ls rest) rfl rfl rfl (cell := ce) (by rw [hT]; exact hcell) (by rw [hv]; rfl)
    (by obtain ⟨k9, h9, -⟩ := Vm.findClass_spec hcl; exact ⟨k9, h9⟩) (fun z hz => by
      rcases hpass z hz with h | ⟨hz0, nm, hl1, hn1⟩
      · exact Or.inl h
      · obtain ⟨c6, hc6, hcl6⟩ := Cond.classLink_spec hown hl1 e.platform hpl
        obtain ⟨a8, b8, h1, h2, h3⟩ := hn1
        cases Option.some.inj (h1.symm.trans hcl)
        cases Option.some.inj (h2.symm.trans hc6)
        exact Or.inr ⟨hz0, _, hcl6, h3⟩)
  obtain ⟨g₀, hfr⟩ := X'.frames_eq
  have hcell9 : ((T.setVm vm').setFrames (.throwing q :: below)).heap[q]? = some ce := by
    show T.heap[q]? = some ce
    rw [hT]; exact hcell
  have hend : Ended ((T.setVm vm').setFrames (.throwing q :: below)) below (.threw q) := State.frames_setFrames _ (State.cur_lt_of_frames hfr)
  refine ⟨(T.setVm vm').setFrames (.throwing q :: below), ?_, .threw q, X'.here.running, hend, Or.inr ⟨q, rfl, E, ce, locs, hx _ hT (X'.ends _).1.alike, hcell9, hv, hcl, (X'.ends _).1, (X'.ends _).2.mono hc hs, hf⟩⟩
  rw [X.pushThrowing_eq]
  exact st
/-- a thing of a world lies in the heap -/
theorem vx_lt {D : va_G} {cl : List vw_C} {ws : va_W} {H1 : Heap} (h : va_P D cl ws H1) {k : Nat} {q : Nat × va_E} (hk : ws[k]? = some q) : q.1 < H1.size := (h k q hk).lt
end VXS
/-! ===== END ===== -/
/-! ===== BEGIN methods with a table of their own: called by a name, returning or throwing ===== -/
section VXH
/-! vx_backW, vx_callVX, vx_callSX, vx_callVW, vx_runVW, vx_runVX, vx_runSX, vx_ofWH follow the same proofs as their sisters above (Free/Laws.lean, Shelf42/LK1.lean); vx_outP calls Shelf42/NT130.lean (outThrough). -/
section
variable {l : Launch} {R : Room} {p : Program} {e : Env} {below : List Frame} {s : State} {sargs : Array Value} {y : MethodName} {len W9 : Nat}
theorem vx_backW {ws : List Cond} {rm : Room} {Pc : Array Value → State → Prop} {Qc : Array Value → State → Outcome → State → Prop} {XC : String → State → State → Prop} {mc ms : Nat} {free : Addr → Prop} {bytes : ByteArray} {maxL : Nat} {ret : Option FieldType} {hh : List (Nat × Nat × Nat × Nat)}
    (hM : vx_Met l y ws rm Pc Qc XC mc ms free) (hblind : FrameBlind Pc) (hrc : rm.cells = mc) (hrs : rm.slots = ms)
    (hframes : rm.frames + 1 ≤ R.frames) (hlocals : W9 + (maxL + 11) + rm.locals ≤ R.locals)
    (hws : ∀ w ∈ ws, ∀ a' U, s.WarmedH U.vm → w.before a' U = true) (hcode : Cond.codeWith y bytes maxL ret hh ∈ ws) (hinit : ∀ a' U, s.WarmedH U.vm → (Cond.initialized y.cls).before a' U = true) :
    vx_Back l R p e below s sargs y len W9 (PreOf R mc ms Pc) (PostOf Qc mc ms free) (vx_Post XC mc ms free) := by
  intro m meth c A g ig mk a X hg hsize hdg hW hn hp
  have h1 : (headSpec ws rm).pre.before a A.U = true := atoms_intro fun w hw => hws w hw _ _ X.warmed
  have h2 : (Cond.codeWith y bytes maxL ret hh).before a A.U = true := hws _ hcode _ _ X.warmed
  have h3 : (Cond.initialized y.cls).before a A.U = true := hinit _ _ X.warmed
  have h4 : A.cells + (headSpec ws rm).room.cells ≤ R.cells := by rw [show (headSpec ws rm).room.cells = mc from hrc]; exact hp.1
  have h5 : A.slots + (headSpec ws rm).room.slots ≤ R.slots := by rw [show (headSpec ws rm).room.slots = ms from hrs]; exact hp.2.1
  have hPc : Pc a (A.U.calling g mk a) := hblind _ _ _ _ hp.2.2
  obtain ⟨U, Ls, c0, s0⟩ := A
  dsimp only [Pt.U, Pt.locs, Pt.cells, Pt.slots] at h1 h2 h3 h4 h5 X hn hPc ⊢
  obtain ⟨m9, methY, cY, hn9, hmY, hcY, -, hlY, -⟩ := Cond.codeWith_spec h2
  cases Option.some.inj (hn9.symm.trans hn)
  obtain ⟨kY, hkY, -⟩ := className_of_methodNamed hn
  have hinitY : kY.init = .initialized := Cond.initialized_spec (findClass_of_methodNamed hn) hkY h3
  have h : At U g.method c below := by rw [hg]; exact X.here
  have hlocals9 : W9 + (maxL + 11) + (headSpec ws rm).room.locals ≤ R.locals := hlocals
  have happ : (headSpec ws rm).appliesLoose y e.platform (U.calling g mk a) = true :=
    Spec.appliesLoose_calling (g := g) h hdg hn hkY hinitY
      (X.room_calling (g := g) (R' := (headSpec ws rm).room) hsize hmY hcY hframes (by rw [hlY]; omega) h4 h5) h1
  obtain ⟨mid, hmid⟩ := h.above
  have hfr : (U.setTop g).frames = (.java g :: mid) ++ below := by rw [State.frames_setTop' g h.top, hmid]; rfl
  obtain ⟨o, s₂, hsteps, -, hend, hq⟩ := Steps.callFree hM p X.admits X.cas X.clock (acts := []) hfr happ hPc trivial
  have hq' : vx_Q Qc XC mc ms free a (U.calling g mk a) o s₂ := hq
  rw [State.frames_setTop' g h.top] at hend
  obtain ⟨g₀, hg0⟩ := Option.isSome_iff_exists.mp h.top
  obtain ⟨r, hr⟩ := State.topJava?_eq_some.mp hg0
  have hr' : (({ U with heap := s₂.heap, slotsUsed := s₂.slotsUsed } : State).setVm s₂.vm).frames = .java g₀ :: r := hr
  rcases hq' with ⟨hqc, L, hfe, hL⟩ | ⟨q, rfl, E, ce, L, hx, hce, hcv, hcl, hW₂, hsm, hL⟩
  · obtain ⟨⟨v, rfl⟩, hW₂, e2, q2, q3, q4, q5, q6⟩ := id hfe
    have e3 : s₂ = ({ (U.calling g mk a).setFrames s₂.frames with heap := s₂.heap, slotsUsed := s₂.slotsUsed } : State).setVm s₂.vm := by
      have : s₂ = ({ s₂ with vm := (U.calling g mk a).vm } : State).setVm s₂.vm := rfl
      rw [e2] at this
      exact this
    obtain ⟨c₂, i₂, len₂, hc₂, hd₂, hf₂⟩ := hend
    have hW' : U.WarmedH s₂.vm := hW₂
    have hcc : c₂ = c := by
      have h1 : s₂.code? g.method = U.code? g.method := by
        rw [State.code?_eq, State.code?_eq, hW'.alike.method?]
      exact Option.some.inj (hc₂.symm.trans (h1.trans h.code))
    subst hcc
    have hlen : len₂ = len := by rw [hdg] at hd₂; cases hd₂; rfl
    subst hlen
    have hs₂ : s₂ = (({ U with heap := s₂.heap, slotsUsed := s₂.slotsUsed } : State).setVm s₂.vm).setTop { g with pc := g.pc + len₂, stack := v.toList ++ g.stack } := by
      refine e3.trans ?_
      rw [hf₂, State.calling_eq h.top, State.setFrames_setFrames, State.setTop_of_frames _ hr', hr]
      rfl
    have hsame : U.sameButNew ({ U with heap := s₂.heap, slotsUsed := s₂.slotsUsed } : State) L mc ms := by
      refine ⟨?_, q2, q3, q4, q5, q6⟩
      obtain ⟨t, ht, -⟩ := State.frames_cons hr
      show ({ U with heap := s₂.heap, slotsUsed := s₂.slotsUsed } : State) = { U.setFrames U.frames with heap := s₂.heap, slotsUsed := s₂.slotsUsed }
      rw [State.setFrames_self ht]
    subst hg
    refine Or.inl ⟨v, ⟨(({ U with heap := s₂.heap, slotsUsed := s₂.slotsUsed } : State).setVm s₂.vm), Ls ++ L, c0 + mc, s0 + ms⟩,
      ⟨X.admits, X.cas, X.clock, X.frames, X.room, X.hears, X.method, X.code, (X.here.setHeapUsed s₂.heap s₂.slotsUsed).setVm hW'.alike, X.tail, State.WarmedH.trans X.warmed hW', X.limits, X.bytes, X.same.trans (hsame.setVm s.vm)⟩,
      ⟨g, mk, s₂, L, rfl, rfl, hqc, rfl, hL, rfl, rfl⟩, ?_⟩
    show Steps p.tables e below _ ((({ U with heap := s₂.heap, slotsUsed := s₂.slotsUsed } : State).setVm s₂.vm).setTop { g with pc := g.pc + len₂, stack := v.toList ++ g.stack })
    rw [← hs₂]
    exact hsteps
  · obtain ⟨e2, q2, q3, q4, q5, q6⟩ := id hsm
    have e3 : s₂ = ({ (U.calling g mk a).setFrames s₂.frames with heap := s₂.heap, slotsUsed := s₂.slotsUsed } : State).setVm s₂.vm := by
      have : s₂ = ({ s₂ with vm := (U.calling g mk a).vm } : State).setVm s₂.vm := rfl
      rw [e2] at this
      exact this
    have hf₂ : s₂.frames = .throwing q :: .java g :: U.frames.tail := hend
    have hW' : U.WarmedH s₂.vm := hW₂
    have hs₂ : s₂ = ((({ U with heap := s₂.heap, slotsUsed := s₂.slotsUsed } : State).setVm s₂.vm).setTop g).pushFrame (.throwing q) := by
      refine e3.trans ?_
      rw [hf₂, State.calling_eq h.top, State.setFrames_setFrames, State.pushFrame, State.frames_setTop _ hr', State.setTop_of_frames _ hr', State.setFrames_setFrames, hr]
      rfl
    have hsame : U.sameButNew ({ U with heap := s₂.heap, slotsUsed := s₂.slotsUsed } : State) L mc ms := by
      refine ⟨?_, q2, q3, q4, q5, q6⟩
      obtain ⟨t, ht, -⟩ := State.frames_cons hr
      show ({ U with heap := s₂.heap, slotsUsed := s₂.slotsUsed } : State) = { U.setFrames U.frames with heap := s₂.heap, slotsUsed := s₂.slotsUsed }
      rw [State.setFrames_self ht]
    subst hg
    refine Or.inr ⟨q, ⟨(({ U with heap := s₂.heap, slotsUsed := s₂.slotsUsed } : State).setVm s₂.vm), Ls ++ L, c0 + mc, s0 + ms⟩,
      ⟨X.admits, X.cas, X.clock, X.frames, X.room, X.hears, X.method, X.code, (X.here.setHeapUsed s₂.heap s₂.slotsUsed).setVm hW'.alike, X.tail, State.WarmedH.trans X.warmed hW', X.limits, X.bytes, X.same.trans (hsame.setVm s.vm)⟩,
      ⟨g, mk, s₂, L, E, ce, rfl, rfl, hx, hce, hcv, hcl, rfl, hL, rfl, rfl⟩, ?_⟩
    show Steps p.tables e below _ (((({ U with heap := s₂.heap, slotsUsed := s₂.slotsUsed } : State).setVm s₂.vm).setTop g).pushFrame (.throwing q))
    rw [← hs₂]
    exact hsteps
end
variable {p : Program} {l : Launch} {e : Env} {R : Room} {s : State} {m : MethodId} {args : Array Value} {below : List Frame} {meth : Method} {c : Code} {T : State} {H : Heap} {locs : List Loc} {cells slots : Nat}
theorem vx_callVX (X : Stand p l e R s m args below meth c T locs cells slots) (hexec : p.tables.exec = Jvm.exec) {own C : String} {index : Nat} {y : MethodName} {bytes : ByteArray} {maxL : Nat} {ret : Option FieldType} {hh : List (Nat × Nat × Nat × Nat)}
    (hown : s.vm.findClass own = some m.cls) (hlink : (Cond.methodLink own index y).before args s = true) (hinst : (Cond.instanceMethod y).before args s = true) (hsel : (Cond.selects C y y).before args s = true)
    (hcode : (Cond.codeWith y bytes maxL ret hh).before args s = true) (hy : y.cls ≠ "java/lang/invoke/MethodHandle" ∧ y.cls ≠ "java/lang/invoke/VarHandle")
    {W9 : Nat} {Pre : Pt → Array Value → Prop} {Post : Pt → Array Value → Option Value → Pt → Prop} {PostX : Pt → Array Value → Addr → Pt → Prop} (hK : vx_Back l R p e below s args y 3 W9 Pre Post PostX)
    {b : Addr} {cellB : Cell} (hcell : T.heap[b]? = some cellB) (hobj : cellB.vm.isStatics = false) (hcls : s.vm.findClass C = some cellB.cls)
    {g : JFrame} (hg : g.method = m) (hsize : g.locals.size = c.maxLocals) {argsL rest : List Value} (hlen : ∀ sig, parseMethodDescriptor y.desc = some sig → argsL.length = sig.parameters.length)
    (hstack : g.stack = argsL.reverse ++ .ref b :: rest) (hW : 2 * g.monitorRoom + (rest.map fun v => v.category).sum ≤ W9) (hdg : decode c.code g.pc = .ok (.invokevirtual index, 3))
    (hpre : ∀ vm₁, s.WarmedH vm₁ → Pre ⟨T.setVm vm₁, locs, cells, slots⟩ (Value.ref b :: argsL).toArray) :
    (∃ (v : Option Value) (vm₁ : Vm) (B : Pt), s.WarmedH vm₁ ∧ Stand p l e R s m args below meth c B.U B.locs B.cells B.slots ∧ Post ⟨T.setVm vm₁, locs, cells, slots⟩ (Value.ref b :: argsL).toArray v B ∧
      ∀ target, Steps p.tables e below (B.U.setTop { g with pc := g.pc + 3, stack := v.toList ++ rest }) target → Steps p.tables e below (T.setTop g) target) ∨
    (∃ (q : Addr) (vm₁ : Vm) (B : Pt), s.WarmedH vm₁ ∧ Stand p l e R s m args below meth c B.U B.locs B.cells B.slots ∧ PostX ⟨T.setVm vm₁, locs, cells, slots⟩ (Value.ref b :: argsL).toArray q B ∧
      Steps p.tables e below (T.setTop g) ((B.U.setTop { g with stack := rest }).pushFrame (.throwing q))) := by
  obtain ⟨mk, methM, hnamed, hmethM, hstM, habM⟩ := Cond.instanceMethod_spec hinst
  obtain ⟨m8, methM', cM, hn8, hmethM', -, -, -, -, -, -, hsigM⟩ := Cond.codeWith_spec hcode
  cases Option.some.inj (hn8.symm.trans hnamed)
  cases hmethM.symm.trans hmethM'
  obtain ⟨c2, r2, m2, q1, q2, q3, q4, kP, hkP, hkPi⟩ := Cond.selects_spec hsel
  cases hcls.symm.trans q1
  cases (State.methodFound?_of_named hnamed hy).symm.trans q2
  cases hnamed.symm.trans q3
  have hselP : selectMethod e.platform s.vm cellB.cls mk = .method mk := by rw [Launch.admits_selectMethod X.admits]; exact q4
  obtain ⟨vm₁, X₁, hstep₁⟩ := X.invokevirtual hexec hown hlink hnamed hmethM hstM hkP hkPi hy (a := b) (cell := cellB) hcell
    (fun z h => by rw [h] at hobj; cases hobj) hselP hmethM habM hkP hkPi (g := g) hg (argsL := argsL) (rest := rest) (hlen _ hsigM) hstack hdg
  rcases hK m meth c ⟨T.setVm vm₁, locs, cells, slots⟩ { g with stack := rest } (.invokevirtual index) mk (Value.ref b :: argsL).toArray X₁ hg hsize hdg hW (X₁.named hnamed) (hpre vm₁ X₁.warmed) with ⟨v, B, X', hpost, hsteps⟩ | ⟨q, B, X', hpost, hsteps⟩
  · exact Or.inl ⟨v, vm₁, B, X₁.warmed, X', hpost, fun target h => hstep₁ _ fun acts => by rw [doInvoke_state]; exact hsteps.trans h⟩
  · exact Or.inr ⟨q, vm₁, B, X₁.warmed, X', hpost, hstep₁ _ fun acts => by rw [doInvoke_state]; exact hsteps⟩
theorem vx_callSX (X : Stand p l e R s m args below meth c T locs cells slots) (hexec : p.tables.exec = Jvm.exec) {own : String} {index : Nat} {y : MethodName} {bytes : ByteArray} {maxL : Nat} {ret : Option FieldType} {hh : List (Nat × Nat × Nat × Nat)}
    (hown : s.vm.findClass own = some m.cls) (hlink : (Cond.methodLink own index y).before args s = true) (hstat : (Cond.static y).before args s = true) (hinit : (Cond.initialized y.cls).before args s = true)
    (hcode : (Cond.codeWith y bytes maxL ret hh).before args s = true) (hy : y.cls ≠ "java/lang/invoke/MethodHandle" ∧ y.cls ≠ "java/lang/invoke/VarHandle")
    {W9 : Nat} {Pre : Pt → Array Value → Prop} {Post : Pt → Array Value → Option Value → Pt → Prop} {PostX : Pt → Array Value → Addr → Pt → Prop} (hK : vx_Back l R p e below s args y 3 W9 Pre Post PostX)
    {g : JFrame} (hg : g.method = m) (hsize : g.locals.size = c.maxLocals) {argsL rest : List Value} (hlen : ∀ sig, parseMethodDescriptor y.desc = some sig → argsL.length = sig.parameters.length)
    (hstack : g.stack = argsL.reverse ++ rest) (hW : 2 * g.monitorRoom + (rest.map fun v => v.category).sum ≤ W9) (hdg : decode c.code g.pc = .ok (.invokestatic index, 3))
    (hpre : ∀ vm₁, s.WarmedH vm₁ → Pre ⟨T.setVm vm₁, locs, cells, slots⟩ argsL.toArray) :
    (∃ (v : Option Value) (vm₁ : Vm) (B : Pt), s.WarmedH vm₁ ∧ Stand p l e R s m args below meth c B.U B.locs B.cells B.slots ∧ Post ⟨T.setVm vm₁, locs, cells, slots⟩ argsL.toArray v B ∧
      ∀ target, Steps p.tables e below (B.U.setTop { g with pc := g.pc + 3, stack := v.toList ++ rest }) target → Steps p.tables e below (T.setTop g) target) ∨
    (∃ (q : Addr) (vm₁ : Vm) (B : Pt), s.WarmedH vm₁ ∧ Stand p l e R s m args below meth c B.U B.locs B.cells B.slots ∧ PostX ⟨T.setVm vm₁, locs, cells, slots⟩ argsL.toArray q B ∧
      Steps p.tables e below (T.setTop g) ((B.U.setTop { g with stack := rest }).pushFrame (.throwing q))) := by
  obtain ⟨mk, methM, cM, hnamed, hmethM, -, -, -, -, -, -, hsigM⟩ := Cond.codeWith_spec hcode
  have hstatic : methM.isStatic = true := Cond.static_spec hnamed hmethM hstat
  obtain ⟨kP, hkP, -⟩ := className_of_methodNamed hnamed
  have hinitP : kP.init = .initialized := Cond.initialized_spec (findClass_of_methodNamed hnamed) hkP hinit
  obtain ⟨vm₁, X₁, hstep₁⟩ := X.invokestatic hexec hown hlink hnamed hmethM hstatic hkP hinitP hy (g := g) hg (argsL := argsL) (rest := rest) (hlen _ hsigM) hstack hdg
  rcases hK m meth c ⟨T.setVm vm₁, locs, cells, slots⟩ { g with stack := rest } (.invokestatic index) mk argsL.toArray X₁ hg hsize hdg hW (X₁.named hnamed) (hpre vm₁ X₁.warmed) with ⟨v, B, X', hpost, hsteps⟩ | ⟨q, B, X', hpost, hsteps⟩
  · exact Or.inl ⟨v, vm₁, B, X₁.warmed, X', hpost, fun target h => hstep₁ _ fun acts => by rw [doInvoke_state]; exact hsteps.trans h⟩
  · exact Or.inr ⟨q, vm₁, B, X₁.warmed, X', hpost, hstep₁ _ fun acts => by rw [doInvoke_state]; exact hsteps⟩
theorem vx_callVW (X : Stand p l e R s m args below meth c T locs cells slots) (hexec : p.tables.exec = Jvm.exec) {own C : String} {index : Nat} {y : MethodName} {bytes : ByteArray} {maxL : Nat} {ret : Option FieldType} {hh : List (Nat × Nat × Nat × Nat)}
    (hown : s.vm.findClass own = some m.cls) (hlink : (Cond.methodLink own index y).before args s = true) (hinst : (Cond.instanceMethod y).before args s = true) (hsel : (Cond.selects C y y).before args s = true)
    (hcode : (Cond.codeWith y bytes maxL ret hh).before args s = true) (hy : y.cls ≠ "java/lang/invoke/MethodHandle" ∧ y.cls ≠ "java/lang/invoke/VarHandle")
    {W9 : Nat} {Pre : Pt → Array Value → Prop} {Post : Pt → Array Value → Option Value → Pt → Prop} (hK : Back l R p e below s args y 3 W9 Pre Post)
    {b : Addr} {cellB : Cell} (hcell : T.heap[b]? = some cellB) (hobj : cellB.vm.isStatics = false) (hcls : s.vm.findClass C = some cellB.cls)
    {g : JFrame} (hg : g.method = m) (hsize : g.locals.size = c.maxLocals) {argsL rest : List Value} (hlen : ∀ sig, parseMethodDescriptor y.desc = some sig → argsL.length = sig.parameters.length)
    (hstack : g.stack = argsL.reverse ++ .ref b :: rest) (hW : 2 * g.monitorRoom + (rest.map fun v => v.category).sum ≤ W9) (hdg : decode c.code g.pc = .ok (.invokevirtual index, 3))
    (hpre : ∀ vm₁, s.WarmedH vm₁ → Pre ⟨T.setVm vm₁, locs, cells, slots⟩ (Value.ref b :: argsL).toArray) :
    ∃ (v : Option Value) (vm₁ : Vm) (B : Pt), s.WarmedH vm₁ ∧ Stand p l e R s m args below meth c B.U B.locs B.cells B.slots ∧ Post ⟨T.setVm vm₁, locs, cells, slots⟩ (Value.ref b :: argsL).toArray v B ∧
      ∀ target, Steps p.tables e below (B.U.setTop { g with pc := g.pc + 3, stack := v.toList ++ rest }) target → Steps p.tables e below (T.setTop g) target := by
  obtain ⟨mk, methM, hnamed, hmethM, hstM, habM⟩ := Cond.instanceMethod_spec hinst
  obtain ⟨m8, methM', cM, hn8, hmethM', -, -, -, -, -, -, hsigM⟩ := Cond.codeWith_spec hcode
  cases Option.some.inj (hn8.symm.trans hnamed)
  cases hmethM.symm.trans hmethM'
  obtain ⟨c2, r2, m2, q1, q2, q3, q4, kP, hkP, hkPi⟩ := Cond.selects_spec hsel
  cases hcls.symm.trans q1
  cases (State.methodFound?_of_named hnamed hy).symm.trans q2
  cases hnamed.symm.trans q3
  have hselP : selectMethod e.platform s.vm cellB.cls mk = .method mk := by rw [Launch.admits_selectMethod X.admits]; exact q4
  obtain ⟨vm₁, X₁, hstep₁⟩ := X.invokevirtual hexec hown hlink hnamed hmethM hstM hkP hkPi hy (a := b) (cell := cellB) hcell
    (fun z h => by rw [h] at hobj; cases hobj) hselP hmethM habM hkP hkPi (g := g) hg (argsL := argsL) (rest := rest) (hlen _ hsigM) hstack hdg
  obtain ⟨v, B, X', hpost, hsteps⟩ := hK m meth c ⟨T.setVm vm₁, locs, cells, slots⟩ { g with stack := rest } (.invokevirtual index) mk (Value.ref b :: argsL).toArray X₁ hg hsize hdg hW (X₁.named hnamed) (hpre vm₁ X₁.warmed)
  exact ⟨v, vm₁, B, X₁.warmed, X', hpost, fun target h => hstep₁ _ fun acts => by rw [doInvoke_state]; exact hsteps.trans h⟩
abbrev vx_CVW (R : Room) (s : State) (args : Array Value) (own C : String) (index : Nat) (y : MethodName) (bytes : ByteArray) (maxL : Nat) (ret : Option FieldType) (hh : List (Nat × Nat × Nat × Nat)) (ws : List Cond) (rm : Room) (mc ms n : Nat) : Prop :=
  (rm.cells = mc ∧ rm.slots = ms ∧ rm.frames + 1 ≤ R.frames ∧ 8 + (maxL + 11) + rm.locals ≤ R.locals ∧ (∀ w ∈ ws, ∀ (a' : Array Value) (U : State), s.WarmedH U.vm → w.before a' U = true) ∧ Cond.codeWith y bytes maxL ret hh ∈ ws) ∧
  (Cond.codeWith y bytes maxL ret hh).before args s = true ∧ (Cond.initialized y.cls).before args s = true ∧ (y.cls ≠ "java/lang/invoke/MethodHandle" ∧ y.cls ≠ "java/lang/invoke/VarHandle") ∧
  (∀ sig, parseMethodDescriptor y.desc = some sig → n = sig.parameters.length) ∧ (Cond.methodLink own index y).before args s = true ∧ (Cond.instanceMethod y).before args s = true ∧ (Cond.selects C y y).before args s = true
theorem vx_cwVW {own C : String} {index maxL mc ms : Nat} {y : MethodName} {bytes : ByteArray} {ret : Option FieldType} {hh : List (Nat × Nat × Nat × Nat)} {Ts ws ws' : List Cond} {rm : Room} (n : Nat) (ht : ∀ w ∈ Ts, w.before args s = true) (hT : GoodIn Ts (wsV own index C y ws)) (hw : ws = Cond.codeWith y bytes maxL ret hh :: ws') (hrc : rm.cells = mc) (hrs : rm.slots = ms)
    (hd : y.cls = C ∧ y.cls ≠ "java/lang/invoke/MethodHandle" ∧ y.cls ≠ "java/lang/invoke/VarHandle" ∧ (parseMethodDescriptor y.desc).map (fun d => d.parameters.length) = some n) (hR : rm.frames + 1 ≤ R.frames ∧ 8 + (maxL + 11) + rm.locals ≤ R.locals) :
    vx_CVW R s args own C index y bytes maxL ret hh ws rm mc ms n := by
  obtain ⟨hC, hd⟩ := hd
  subst hC
  have ok : ∀ w ∈ wsV own index y.cls y ws, w.before args s = true := fun w h => ht w (hT w h).1
  have hG : GoodIn Ts ws := fun w h => hT w (by unfold wsV; exact List.mem_append_right _ h)
  have hc : Cond.codeWith y bytes maxL ret hh ∈ ws := by rw [hw]; exact List.mem_cons_self
  refine ⟨⟨hrc, hrs, hR.1, hR.2, pay_in ht hG, hc⟩, ht _ (hG _ hc).1, ok _ (by simp [wsV]), ⟨hd.1, hd.2.1⟩, fun sig h => ?_, ok _ (by simp [wsV]), ok _ (by simp [wsV]), ok _ (by simp [wsV])⟩
  have h2 := hd.2.2
  rw [h] at h2
  exact (Option.some.inj h2).symm
theorem vx_runVW {y : MethodName} {bytes cc : ByteArray} {maxL nL mc ms n index : Nat} {ret : Option FieldType} {hh : List (Nat × Nat × Nat × Nat)} {ws : List Cond} {rm : Room} {Pc : Array Value → State → Prop} {Qc : Array Value → State → Outcome → State → Prop} {free : Addr → Prop} {Ts : List Cond} {own C : String} {b : Addr} {As rest : List Value} {g : JFrame}
    (S : CallFix p m c cc nL s args Ts own) (hM : Met l y ws rm Pc Qc mc ms free) (cw : vx_CVW R s args own C index y bytes maxL ret hh ws rm mc ms n) (hp : PreV s H C b Pc As)
    (hg : g.method = m) (hn : As.length = n) (hsize : g.locals.size = nL) (hstack : g.stack = As.reverse ++ .ref b :: rest) (hW : 2 * g.monitorRoom + (rest.map fun v => v.category).sum ≤ 8) (hdg : decode cc g.pc = .ok (.invokevirtual index, 3)) (hf : cells + mc ≤ R.cells ∧ slots + ms ≤ R.slots) :
    va_Run p l e R s m args below meth c H locs cells slots mc ms g rest (Qc (Value.ref b :: As).toArray) free := by
  obtain ⟨⟨hrc, hrs, hfr, hlo, hws, hcw⟩, hcode, hini, hy, hlen, hl, hin, hse⟩ := cw
  have hK : Back l R p e below s args y 3 8 (PreOf R mc ms Pc) (PostOf Qc mc ms free) := va_backW (hh := hh) (bytes := bytes) (maxL := maxL) (ret := ret) hM hp.1 hrc hrs hfr hlo hws hcw (fun a' U hW => word_at hW (Or.inl (by first | rfl | simp [Cond.onTables, Cond.keeps, Cond.steady])) hini)
  obtain ⟨hx, hb, hml, ho, -⟩ := S
  obtain ⟨-, ⟨cellB, hcB, hoB, hclB⟩, hPc⟩ := hp
  intro T hT X
  obtain ⟨v, vm₁, ⟨U', l2, c2, s2⟩, hW₁, X', ⟨g', mk, t, L, e1, e2, hq, h1, hL, h2, h3⟩, st⟩ := vx_callVW X hx (C := C) (hh := hh) (bytes := bytes) (maxL := maxL) (ret := ret) ho hl hin hse hcode hy hK (by rw [hT]; exact hcB) hoB hclB hg (hsize.trans hml.symm) (argsL := As) (rest := rest) (fun sig h => hn.trans (hlen sig h)) hstack hW (by rw [hb]; exact hdg)
    (fun vm₁ hW₁ => ⟨hf.1, hf.2, hPc (T.setVm vm₁) hT hW₁⟩)
  dsimp only [Pt.U, Pt.locs, Pt.cells, Pt.slots] at X' e1 e2 h1 h2 h3 st
  subst h1; subst h2; subst h3
  exact ⟨v, (T.setVm vm₁).calling g' mk (Value.ref b :: As).toArray, t, U', L, hT, X', hL, e1, e2, hq, st⟩
section
variable {y : MethodName} {bytes cc : ByteArray} {maxL nL mc ms n index : Nat} {ret : Option FieldType} {ws : List Cond} {rm : Room} {Pc : Array Value → State → Prop} {Qc : Array Value → State → Outcome → State → Prop} {XC : String → State → State → Prop} {free : Addr → Prop} {Ts : List Cond} {own C : String} {b : Addr} {As rest : List Value} {g : JFrame}
theorem vx_runVX {hh : List (Nat × Nat × Nat × Nat)} (S : CallFix p m c cc nL s args Ts own) (hM : vx_Met l y ws rm Pc Qc XC mc ms free) (cw : vx_CVW R s args own C index y bytes maxL ret hh ws rm mc ms n) (hp : PreV s H C b Pc As)
    (hg : g.method = m) (hn : As.length = n) (hsize : g.locals.size = nL) (hstack : g.stack = As.reverse ++ .ref b :: rest) (hW : 2 * g.monitorRoom + (rest.map fun v => v.category).sum ≤ 8) (hdg : decode cc g.pc = .ok (.invokevirtual index, 3)) (hf : cells + mc ≤ R.cells ∧ slots + ms ≤ R.slots) :
    vx_Run p l e R s m args below meth c H locs cells slots mc ms g rest (Qc (Value.ref b :: As).toArray) XC free := by
  obtain ⟨⟨hrc, hrs, hfr, hlo, hws, hcw⟩, hcode, hini, hy, hlen, hl, hin, hse⟩ := cw
  have hK : vx_Back l R p e below s args y 3 8 (PreOf R mc ms Pc) (PostOf Qc mc ms free) (vx_Post XC mc ms free) := vx_backW (hh := hh) (bytes := bytes) (maxL := maxL) (ret := ret) hM hp.1 hrc hrs hfr hlo hws hcw (fun a' U hW => word_at hW (Or.inl (by first | rfl | simp [Cond.onTables, Cond.keeps, Cond.steady])) hini)
  obtain ⟨hx, hb, hml, ho, -⟩ := S
  obtain ⟨-, ⟨cellB, hcB, hoB, hclB⟩, hPc⟩ := hp
  intro T hT X
  rcases vx_callVX X hx (C := C) (hh := hh) (bytes := bytes) (maxL := maxL) (ret := ret) ho hl hin hse hcode hy hK (by rw [hT]; exact hcB) hoB hclB hg (hsize.trans hml.symm) (argsL := As) (rest := rest) (fun sig h => hn.trans (hlen sig h)) hstack hW (by rw [hb]; exact hdg)
    (fun vm₁ hW₁ => ⟨hf.1, hf.2, hPc (T.setVm vm₁) hT hW₁⟩) with ⟨v, vm₁, ⟨U', l2, c2, s2⟩, hW₁, X', ⟨g', mk, t, L, e1, e2, hq, h1, hL, h2, h3⟩, st⟩ | ⟨q, vm₁, ⟨U', l2, c2, s2⟩, hW₁, X', ⟨g', mk, t, L, E, ce, e1, e2, hq, hce, hcv, hcl, h1, hL, h2, h3⟩, st⟩
  · dsimp only [Pt.U, Pt.locs, Pt.cells, Pt.slots] at X' e1 e2 h1 h2 h3 st
    subst h1; subst h2; subst h3
    exact Or.inl ⟨v, (T.setVm vm₁).calling g' mk (Value.ref b :: As).toArray, t, U', L, hT, X', hL, e1, e2, hq, st⟩
  · dsimp only [Pt.U, Pt.locs, Pt.cells, Pt.slots] at X' e1 e2 h1 h2 h3 st hcl
    subst h1; subst h2; subst h3
    exact Or.inr ⟨q, (T.setVm vm₁).calling g' mk (Value.ref b :: As).toArray, t, U', L, E, ce, hT, X', hL, e1, e2, hq, hce, hcv, vx_cls hW₁ hcl, st⟩
theorem vx_runSX {hh : List (Nat × Nat × Nat × Nat)} (S : CallFix p m c cc nL s args Ts own) (hM : vx_Met l y ws rm Pc Qc XC mc ms free) (cw : vx_CSW R s args own index y bytes maxL ret hh ws rm mc ms n) (hp : PreS s H Pc As)
    (hg : g.method = m) (hn : As.length = n) (hsize : g.locals.size = nL) (hstack : g.stack = As.reverse ++ rest) (hW : 2 * g.monitorRoom + (rest.map fun v => v.category).sum ≤ 8) (hdg : decode cc g.pc = .ok (.invokestatic index, 3)) (hf : cells + mc ≤ R.cells ∧ slots + ms ≤ R.slots) :
    vx_Run p l e R s m args below meth c H locs cells slots mc ms g rest (Qc As.toArray) XC free := by
  obtain ⟨⟨hrc, hrs, hfr, hlo, hws, hcw⟩, hcode, hini, hy, hlen, hl, hstt⟩ := cw
  have hK : vx_Back l R p e below s args y 3 8 (PreOf R mc ms Pc) (PostOf Qc mc ms free) (vx_Post XC mc ms free) := vx_backW (hh := hh) (bytes := bytes) (maxL := maxL) (ret := ret) hM hp.1 hrc hrs hfr hlo hws hcw (fun a' U hW => word_at hW (Or.inl (by first | rfl | simp [Cond.onTables, Cond.keeps, Cond.steady])) hini)
  obtain ⟨hx, hb, hml, ho, -⟩ := S
  intro T hT X
  rcases vx_callSX X hx (hh := hh) (bytes := bytes) (maxL := maxL) (ret := ret) ho hl hstt hini hcode hy hK hg (hsize.trans hml.symm) (argsL := As) (rest := rest) (fun sig h => hn.trans (hlen sig h)) hstack hW (by rw [hb]; exact hdg)
    (fun vm₁ hW₁ => ⟨hf.1, hf.2, hp.2 (T.setVm vm₁) hT hW₁⟩) with ⟨v, vm₁, ⟨U', l2, c2, s2⟩, hW₁, X', ⟨g', mk, t, L, e1, e2, hq, h1, hL, h2, h3⟩, st⟩ | ⟨q, vm₁, ⟨U', l2, c2, s2⟩, hW₁, X', ⟨g', mk, t, L, E, ce, e1, e2, hq, hce, hcv, hcl, h1, hL, h2, h3⟩, st⟩
  · dsimp only [Pt.U, Pt.locs, Pt.cells, Pt.slots] at X' e1 e2 h1 h2 h3 st
    subst h1; subst h2; subst h3
    exact Or.inl ⟨v, (T.setVm vm₁).calling g' mk As.toArray, t, U', L, hT, X', hL, e1, e2, hq, st⟩
  · dsimp only [Pt.U, Pt.locs, Pt.cells, Pt.slots] at X' e1 e2 h1 h2 h3 st hcl
    subst h1; subst h2; subst h3
    exact Or.inr ⟨q, (T.setVm vm₁).calling g' mk As.toArray, t, U', L, E, ce, hT, X', hL, e1, e2, hq, hce, hcv, vx_cls hW₁ hcl, st⟩
end
end VXH
theorem vx_ofWH {l : Launch} {y : MethodName} {ws ws' : List Cond} {rm : Room} {Pc : Array Value → State → Prop} {Qc : Array Value → State → Outcome → State → Prop} {XC : String → State → State → Prop} {mc ms : Nat} {free : Addr → Prop} {cc : ByteArray} {maxL : Nat} {ret : Option FieldType} {hh : List (Nat × Nat × Nat × Nat)}
    (hy : plainName y.cls = true) (hw : ws = Cond.codeWith y cc maxL ret hh :: ws')
    (body : ∀ p e s m args below meth c s₁, BodyLoose p l y (headSpec ws rm) cc maxL ret e s m args below meth c s₁ → c.maxLocals = maxL → Pc args s →
      W p l e (headSpec ws rm).room s m args below meth c s.heap [] 0 0 (vx_MQ below Qc XC args s mc ms free) (entryFrame m args maxL)) : vx_Met l y ws rm Pc Qc XC mc ms free := by
  refine MetFree.of_bodyS (code := cc) (maxLocals := maxL) (ret := ret) hy ?_ ?_
  · intro args s m h hn
    obtain ⟨m9, meth, c, hn9, h1, h2, h3, h4, -, h5, h6, -⟩ := Cond.codeWith_spec (atoms_spec (ws := ws) h _ (by rw [hw]; exact List.mem_cons_self))
    cases hn.symm.trans hn9
    exact ⟨meth, c, h1, h2, h3, h4, h5, h6⟩
  · intro p e s m args below meth c s₁ B hml hP _
    have hh0 : s₁.heap = s.heap := by rw [B.state]; rfl
    obtain ⟨t, a1, o, b1, b2, b3⟩ := body p e s m args below meth c s₁ B hml hP s₁ hh0 (Stand.of_body B)
    exact ⟨t, o, a1, b1, b2, b3⟩
/-! ===== END ===== -/
end
section
/-! ===== BEGIN printed: names, fields, word lists, decode rows ===== -/
def RX0 : String := "PinnedPantry$Row"
def TX0 : u_T := fun k => match k with
  | 0 => ("PinnedPantry$Row", "kinds", "[I", true)
  | _ => ("PinnedPantry$Row", "length", "I", false)
def tyX0 : Nat → FieldType := fun k => match k with
  | 0 => .array .int
  | _ => .int
abbrev wsX00 : List Cond := u_ws RX0 TX0 2
theorem nmX0 : ∀ a, a < 2 → ∀ b, b < 2 → a ≠ b → (TX0 a).2.1 ≠ (TX0 b).2.1 := by decide +kernel
theorem tyX0_ok : ∀ k, k < 2 → parseFieldDescriptor (TX0 k).2.2.1 = some (tyX0 k) := by decide +kernel
abbrev cX0_init : ByteArray := prog_2_method_1_code
def yX0_init : MethodName := ⟨RX0, "<init>", "()V"⟩
abbrev cX0_become : ByteArray := prog_2_method_2_code
def yX0_become : MethodName := ⟨RX0, "become", "(LPinnedPantry$Row;)V"⟩
abbrev cX0_at : ByteArray := prog_2_method_3_code
def yX0_at : MethodName := ⟨RX0, "at", "(I)I"⟩
abbrev cX0_placeOf : ByteArray := prog_2_method_4_code
def yX0_placeOf : MethodName := ⟨RX0, "placeOf", "(I)I"⟩
abbrev cX0_has : ByteArray := prog_2_method_5_code
def yX0_has : MethodName := ⟨RX0, "has", "(I)Z"⟩
abbrev cX0_append : ByteArray := prog_2_method_6_code
def yX0_append : MethodName := ⟨RX0, "append", "(I)V"⟩
abbrev cX0_takeOut : ByteArray := prog_2_method_7_code
def yX0_takeOut : MethodName := ⟨RX0, "takeOut", "(I)V"⟩
abbrev cX0_forgetEldest : ByteArray := prog_2_method_8_code
def yX0_forgetEldest : MethodName := ⟨RX0, "forgetEldest", "(I)V"⟩
def RX1 : String := "PinnedPantry$Store"
def TX1 : u_T := fun k => match k with
  | 0 => ("PinnedPantry$Store", "newRow", "LPinnedPantry$Row;", true)
  | 1 => ("PinnedPantry$Store", "triedRow", "LPinnedPantry$Row;", true)
  | 2 => ("PinnedPantry$Store", "newList", "LPinnedPantry$Row;", true)
  | 3 => ("PinnedPantry$Store", "triedList", "LPinnedPantry$Row;", true)
  | 4 => ("PinnedPantry$Store", "touches", "LPinnedPantry$Table;", true)
  | 5 => ("PinnedPantry$Store", "pins", "LPinnedPantry$Table;", true)
  | 6 => ("PinnedPantry$Store", "fetches", "LPinnedPantry$Table;", true)
  | 7 => ("PinnedPantry$Store", "places", "I", false)
  | 8 => ("PinnedPantry$Store", "goal", "I", false)
  | 9 => ("PinnedPantry$Store", "hits", "I", false)
  | 10 => ("PinnedPantry$Store", "misses", "I", false)
  | 11 => ("PinnedPantry$Store", "rememberedMisses", "I", false)
  | _ => ("PinnedPantry$Store", "looks", "I", false)
def tyX1 : Nat → FieldType := fun k => match k with
  | 0 => .object "PinnedPantry$Row"
  | 1 => .object "PinnedPantry$Row"
  | 2 => .object "PinnedPantry$Row"
  | 3 => .object "PinnedPantry$Row"
  | 4 => .object "PinnedPantry$Table"
  | 5 => .object "PinnedPantry$Table"
  | 6 => .object "PinnedPantry$Table"
  | 7 => .int
  | 8 => .int
  | 9 => .int
  | 10 => .int
  | 11 => .int
  | _ => .int
abbrev wsX10 : List Cond := u_ws RX1 TX1 13
theorem nmX1 : ∀ a, a < 13 → ∀ b, b < 13 → a ≠ b → (TX1 a).2.1 ≠ (TX1 b).2.1 := by decide +kernel
theorem tyX1_ok : ∀ k, k < 13 → parseFieldDescriptor (TX1 k).2.2.1 = some (tyX1 k) := by decide +kernel
abbrev cX1_init : ByteArray := prog_3_method_1_code
def yX1_init : MethodName := ⟨RX1, "<init>", "()V"⟩
abbrev cX1_become : ByteArray := prog_3_method_2_code
def yX1_become : MethodName := ⟨RX1, "become", "(LPinnedPantry$Store;)V"⟩
abbrev cX1_rowOf : ByteArray := prog_3_method_3_code
def yX1_rowOf : MethodName := ⟨RX1, "rowOf", "(I)LPinnedPantry$Row;"⟩
abbrev cX1_listOf : ByteArray := prog_3_method_4_code
def yX1_listOf : MethodName := ⟨RX1, "listOf", "(I)LPinnedPantry$Row;"⟩
abbrev cX1_hasJar : ByteArray := prog_3_method_5_code
def yX1_hasJar : MethodName := ⟨RX1, "hasJar", "(I)Z"⟩
abbrev cX1_jars : ByteArray := prog_3_method_6_code
def yX1_jars : MethodName := ⟨RX1, "jars", "()I"⟩
abbrev cX1_pinnedJars : ByteArray := prog_3_method_7_code
def yX1_pinnedJars : MethodName := ⟨RX1, "pinnedJars", "()I"⟩
abbrev cX1_pinnedOn : ByteArray := prog_3_method_8_code
def yX1_pinnedOn : MethodName := ⟨RX1, "pinnedOn", "(LPinnedPantry$Row;)I"⟩
abbrev cX1_forecast : ByteArray := prog_3_method_9_code
def yX1_forecast : MethodName := ⟨RX1, "forecast", "(I)I"⟩
abbrev cX1_bring : ByteArray := prog_3_method_10_code
def yX1_bring : MethodName := ⟨RX1, "bring", "(I)I"⟩
abbrev cX1_bringSeries : ByteArray := prog_3_method_11_code
def yX1_bringSeries : MethodName := ⟨RX1, "bringSeries", "(III)I"⟩
abbrev cX1_recall : ByteArray := prog_3_method_12_code
def yX1_recall : MethodName := ⟨RX1, "recall", "(II)V"⟩
abbrev cX1_turn : ByteArray := prog_3_method_13_code
def yX1_turn : MethodName := ⟨RX1, "turn", "(LPinnedPantry$Row;LPinnedPantry$Row;)I"⟩
abbrev cX1_placeNewJar : ByteArray := prog_3_method_14_code
def yX1_placeNewJar : MethodName := ⟨RX1, "placeNewJar", "(ILPinnedPantry$Row;)V"⟩
abbrev cX1_sweep : ByteArray := prog_3_method_15_code
def yX1_sweep : MethodName := ⟨RX1, "sweep", "()I"⟩
abbrev cX1_givingShelf : ByteArray := prog_3_method_16_code
def yX1_givingShelf : MethodName := ⟨RX1, "givingShelf", "()I"⟩
abbrev cX1_changePins : ByteArray := prog_3_method_17_code
def yX1_changePins : MethodName := ⟨RX1, "changePins", "(II)I"⟩
abbrev cX1_remove : ByteArray := prog_3_method_18_code
def yX1_remove : MethodName := ⟨RX1, "remove", "(I)I"⟩
abbrev cX1_resize : ByteArray := prog_3_method_19_code
def yX1_resize : MethodName := ⟨RX1, "resize", "(I)V"⟩
abbrev cX1_detail : ByteArray := prog_3_method_20_code
def yX1_detail : MethodName := ⟨RX1, "detail", "(II)I"⟩
abbrev cX1_tally : ByteArray := prog_3_method_21_code
def yX1_tally : MethodName := ⟨RX1, "tally", "(I)I"⟩
abbrev cX1_fetchesOfAll : ByteArray := prog_3_method_22_code
def yX1_fetchesOfAll : MethodName := ⟨RX1, "fetchesOfAll", "()I"⟩
def RX2 : String := "PinnedPantry$Table"
def TX2 : u_T := fun k => match k with
  | _ => ("PinnedPantry$Table", "numbers", "[I", true)
def tyX2 : Nat → FieldType := fun k => match k with
  | _ => .array .int
abbrev wsX20 : List Cond := u_ws RX2 TX2 1
theorem nmX2 : ∀ a, a < 1 → ∀ b, b < 1 → a ≠ b → (TX2 a).2.1 ≠ (TX2 b).2.1 := by decide +kernel
theorem tyX2_ok : ∀ k, k < 1 → parseFieldDescriptor (TX2 k).2.2.1 = some (tyX2 k) := by decide +kernel
abbrev cX2_init : ByteArray := prog_4_method_1_code
def yX2_init : MethodName := ⟨RX2, "<init>", "()V"⟩
abbrev cX2_become : ByteArray := prog_4_method_2_code
def yX2_become : MethodName := ⟨RX2, "become", "(LPinnedPantry$Table;)V"⟩
abbrev cX2_of : ByteArray := prog_4_method_3_code
def yX2_of : MethodName := ⟨RX2, "of", "(I)I"⟩
abbrev cX2_put : ByteArray := prog_4_method_4_code
def yX2_put : MethodName := ⟨RX2, "put", "(II)V"⟩
def RX3 : String := "PinnedPantry"
def TX3 : u_T := fun k => match k with
  | 0 => ("PinnedPantry", "store", "LPinnedPantry$Store;", true)
  | _ => ("PinnedPantry", "rehearsal", "LPinnedPantry$Store;", true)
def tyX3 : Nat → FieldType := fun k => match k with
  | 0 => .object "PinnedPantry$Store"
  | _ => .object "PinnedPantry$Store"
abbrev wsX30 : List Cond := u_ws RX3 TX3 2
theorem nmX3 : ∀ a, a < 2 → ∀ b, b < 2 → a ≠ b → (TX3 a).2.1 ≠ (TX3 b).2.1 := by decide +kernel
theorem tyX3_ok : ∀ k, k < 2 → parseFieldDescriptor (TX3 k).2.2.1 = some (tyX3 k) := by decide +kernel
abbrev cX3_init : ByteArray := prog_1_method_1_code
def yX3_init : MethodName := ⟨RX3, "<init>", "()V"⟩
abbrev cX3_fetch : ByteArray := prog_1_method_2_code
def yX3_fetch : MethodName := ⟨RX3, "fetch", "(I)I"⟩
abbrev cX3_fetchAll : ByteArray := prog_1_method_3_code
def yX3_fetchAll : MethodName := ⟨RX3, "fetchAll", "(III)I"⟩
abbrev cX3_pin : ByteArray := prog_1_method_4_code
def yX3_pin : MethodName := ⟨RX3, "pin", "(I)I"⟩
abbrev cX3_unpin : ByteArray := prog_1_method_5_code
def yX3_unpin : MethodName := ⟨RX3, "unpin", "(I)I"⟩
abbrev cX3_eat : ByteArray := prog_1_method_6_code
def yX3_eat : MethodName := ⟨RX3, "eat", "(I)I"⟩
abbrev cX3_setPlaces : ByteArray := prog_1_method_7_code
def yX3_setPlaces : MethodName := ⟨RX3, "setPlaces", "(I)I"⟩
abbrev cX3_setGoal : ByteArray := prog_1_method_8_code
def yX3_setGoal : MethodName := ⟨RX3, "setGoal", "(I)I"⟩
abbrev cX3_jar : ByteArray := prog_1_method_9_code
def yX3_jar : MethodName := ⟨RX3, "jar", "(II)I"⟩
abbrev cX3_shelf : ByteArray := prog_1_method_10_code
def yX3_shelf : MethodName := ⟨RX3, "shelf", "(II)I"⟩
abbrev cX3_ghost : ByteArray := prog_1_method_11_code
def yX3_ghost : MethodName := ⟨RX3, "ghost", "(II)I"⟩
abbrev cX3_count : ByteArray := prog_1_method_12_code
def yX3_count : MethodName := ⟨RX3, "count", "(I)I"⟩
abbrev cX3_next : ByteArray := prog_1_method_13_code
def yX3_next : MethodName := ⟨RX3, "next", "()I"⟩
abbrev cX3_mean : ByteArray := prog_1_method_17_code
def yX3_mean : MethodName := ⟨RX3, "mean", "()D"⟩
abbrev cX3_requireKind : ByteArray := prog_1_method_19_code
def yX3_requireKind : MethodName := ⟨RX3, "requireKind", "(I)V"⟩
abbrev cX3_requireSeries : ByteArray := prog_1_method_20_code
def yX3_requireSeries : MethodName := ⟨RX3, "requireSeries", "(III)V"⟩
abbrev cX3_requireShelf : ByteArray := prog_1_method_21_code
def yX3_requireShelf : MethodName := ⟨RX3, "requireShelf", "(I)V"⟩
abbrev cX3_requireAt : ByteArray := prog_1_method_22_code
def yX3_requireAt : MethodName := ⟨RX3, "requireAt", "(LPinnedPantry$Row;I)I"⟩
abbrev cX3_requireJar : ByteArray := prog_1_method_23_code
def yX3_requireJar : MethodName := ⟨RX3, "requireJar", "(I)V"⟩
def RX4 : String := "PinnedPantryLaw$Jar"
def TX4 : u_T := fun k => match k with
  | 0 => ("PinnedPantryLaw$Jar", "kind", "I", true)
  | 1 => ("PinnedPantryLaw$Jar", "isTouched", "Z", false)
  | 2 => ("PinnedPantryLaw$Jar", "pins", "I", false)
  | _ => ("PinnedPantryLaw$Jar", "fetched", "I", false)
def tyX4 : Nat → FieldType := fun k => match k with
  | 0 => .int
  | 1 => .boolean
  | 2 => .int
  | _ => .int
abbrev wsX40 : List Cond := u_ws RX4 TX4 4
theorem nmX4 : ∀ a, a < 4 → ∀ b, b < 4 → a ≠ b → (TX4 a).2.1 ≠ (TX4 b).2.1 := by decide +kernel
theorem tyX4_ok : ∀ k, k < 4 → parseFieldDescriptor (TX4 k).2.2.1 = some (tyX4 k) := by decide +kernel
abbrev cX4_init : ByteArray := prog_6_method_1_code
def yX4_init : MethodName := ⟨RX4, "<init>", "(I)V"⟩
def RX5 : String := "PinnedPantryLaw$Sim"
def TX5 : u_T := fun k => match k with
  | 0 => ("PinnedPantryLaw$Sim", "places", "I", false)
  | 1 => ("PinnedPantryLaw$Sim", "goal", "I", false)
  | 2 => ("PinnedPantryLaw$Sim", "hits", "I", false)
  | 3 => ("PinnedPantryLaw$Sim", "misses", "I", false)
  | 4 => ("PinnedPantryLaw$Sim", "remembered", "I", false)
  | 5 => ("PinnedPantryLaw$Sim", "looked", "I", false)
  | 6 => ("PinnedPantryLaw$Sim", "shelves", "[[LPinnedPantryLaw$Jar;", false)
  | _ => ("PinnedPantryLaw$Sim", "lists", "[[I", false)
def tyX5 : Nat → FieldType := fun k => match k with
  | 0 => .int
  | 1 => .int
  | 2 => .int
  | 3 => .int
  | 4 => .int
  | 5 => .int
  | 6 => .array (.array (.object "PinnedPantryLaw$Jar"))
  | _ => .array (.array .int)
abbrev wsX50 : List Cond := u_ws RX5 TX5 8
theorem nmX5 : ∀ a, a < 8 → ∀ b, b < 8 → a ≠ b → (TX5 a).2.1 ≠ (TX5 b).2.1 := by decide +kernel
theorem tyX5_ok : ∀ k, k < 8 → parseFieldDescriptor (TX5 k).2.2.1 = some (tyX5 k) := by decide +kernel
abbrev cX5_init : ByteArray := prog_7_method_1_code
def yX5_init : MethodName := ⟨RX5, "<init>", "()V"⟩
abbrev cX5_all : ByteArray := prog_7_method_3_code
def yX5_all : MethodName := ⟨RX5, "all", "()I"⟩
abbrev cX5_pinned : ByteArray := prog_7_method_4_code
def yX5_pinned : MethodName := ⟨RX5, "pinned", "()I"⟩
abbrev cX5_free : ByteArray := prog_7_method_5_code
def yX5_free : MethodName := ⟨RX5, "free", "(I)I"⟩
abbrev cX5_find : ByteArray := prog_7_method_6_code
def yX5_find : MethodName := ⟨RX5, "find", "(I)LPinnedPantryLaw$Jar;"⟩
abbrev cX5_list : ByteArray := prog_7_method_7_code
def yX5_list : MethodName := ⟨RX5, "list", "(I)[I"⟩
abbrev cX5_sweep : ByteArray := prog_7_method_8_code
def yX5_sweep : MethodName := ⟨RX5, "sweep", "()I"⟩
abbrev cX5_fetch : ByteArray := prog_7_method_9_code
def yX5_fetch : MethodName := ⟨RX5, "fetch", "(I)I"⟩
abbrev cX5_fetchAll : ByteArray := prog_7_method_10_code
def yX5_fetchAll : MethodName := ⟨RX5, "fetchAll", "(III)I"⟩
abbrev cX5_setPlaces : ByteArray := prog_7_method_11_code
def yX5_setPlaces : MethodName := ⟨RX5, "setPlaces", "(I)V"⟩
abbrev cX5_isSame : ByteArray := prog_7_method_12_code
def yX5_isSame : MethodName := ⟨RX5, "isSame", "(LPinnedPantry;)Z"⟩
def RX6 : String := "PinnedPantryModel"
def TX6 : u_T := fun k => match k with
  | _ => ("", "", "", false)
def tyX6 : Nat → FieldType := fun k => match k with
  | _ => .int
abbrev wsX60 : List Cond := u_ws RX6 TX6 0
theorem nmX6 : ∀ a, a < 0 → ∀ b, b < 0 → a ≠ b → (TX6 a).2.1 ≠ (TX6 b).2.1 := by decide +kernel
theorem tyX6_ok : ∀ k, k < 0 → parseFieldDescriptor (TX6 k).2.2.1 = some (tyX6 k) := by decide +kernel
def RJ9 : String := "java/lang/Math"
def TJ9 : u_T := fun k => match k with
  | _ => ("", "", "", false)
def tyJ9 : Nat → FieldType := fun k => match k with
  | _ => .int
theorem nmJ9 : ∀ a, a < 0 → ∀ b, b < 0 → a ≠ b → (TJ9 a).2.1 ≠ (TJ9 b).2.1 := by decide +kernel
theorem tyJ9_ok : ∀ k, k < 0 → parseFieldDescriptor (TJ9 k).2.2.1 = some (tyJ9 k) := by decide +kernel
abbrev cJ9_max_7cf53 : ByteArray := prog_13_method_65_code
def yJ9_max_7cf53 : MethodName := ⟨RJ9, "max", "(II)I"⟩
abbrev cJ9_min_7cf53 : ByteArray := prog_13_method_69_code
def yJ9_min_7cf53 : MethodName := ⟨RJ9, "min", "(II)I"⟩
def RJ0 : String := "java/lang/String"
def TJ0 : u_T := fun k => match k with
  | _ => ("", "", "", false)
def tyJ0 : Nat → FieldType := fun k => match k with
  | _ => .int
theorem nmJ0 : ∀ a, a < 0 → ∀ b, b < 0 → a ≠ b → (TJ0 a).2.1 ≠ (TJ0 b).2.1 := by decide +kernel
theorem tyJ0_ok : ∀ k, k < 0 → parseFieldDescriptor (TJ0 k).2.2.1 = some (tyJ0 k) := by decide +kernel
def RL : String := "PinnedPantryLaw"
abbrev cL_below : ByteArray := method_2_code
def yL_below : MethodName := ⟨RL, "below", "(II)I"⟩
abbrev cL_cell : ByteArray := method_3_code
def yL_cell : MethodName := ⟨RL, "cell", "([II)I"⟩
abbrev cL_with : ByteArray := method_4_code
def yL_with : MethodName := ⟨RL, "with", "([LPinnedPantryLaw$Jar;LPinnedPantryLaw$Jar;)[LPinnedPantryLaw$Jar;"⟩
abbrev cL_without : ByteArray := method_5_code
def yL_without : MethodName := ⟨RL, "without", "([LPinnedPantryLaw$Jar;I)[LPinnedPantryLaw$Jar;"⟩
abbrev cL_with_ : ByteArray := method_6_code
def yL_with_ : MethodName := ⟨RL, "with", "([II)[I"⟩
abbrev cL_without_ : ByteArray := method_7_code
def yL_without_ : MethodName := ⟨RL, "without", "([II)[I"⟩
abbrev cL_fetch : ByteArray := method_8_code
def yL_fetch : MethodName := ⟨RL, "fetch", "(LPinnedPantry;I)I"⟩
abbrev cL_act : ByteArray := method_9_code
def yL_act : MethodName := ⟨RL, "act", "(LPinnedPantry;LPinnedPantryLaw$Sim;I)Z"⟩
abbrev cL_build : ByteArray := method_10_code
def yL_build : MethodName := ⟨RL, "build", "(LPinnedPantry;[I)LPinnedPantryLaw$Sim;"⟩
abbrev cL_law : ByteArray := code
def yL_law : MethodName := ⟨RL, "law", "([I)Z"⟩
def wsL_law0_r1 : List Cond := [Cond.classLink RL 12 RX3, Cond.instantiable RX3 2, Cond.initialized RX3, Cond.arrayClass .boolean, Cond.methodLink RL 92 yX3_init, Cond.instanceMethod yX3_init, Cond.code yX3_init cX3_init 1 none, Cond.methodLink RX3 1 objectInit, Cond.instanceMethod objectInit, Cond.code objectInit ⟨#[0xb1]⟩ 1 none, Cond.classLink RX3 7 RX1, Cond.instantiable RX1 13, Cond.initialized RX1, Cond.fieldLink RX3 10 "PinnedPantry" "store" "LPinnedPantry$Store;", Cond.fieldLink RX3 16 "PinnedPantry" "rehearsal" "LPinnedPantry$Store;", Cond.methodLink RX3 9 yX1_init, Cond.instanceMethod yX1_init, Cond.code yX1_init cX1_init 1 none, Cond.methodLink RX1 3 objectInit, Cond.classLink RX1 9 RX0, Cond.instantiable RX0 2, Cond.initialized RX0, Cond.fieldLink RX1 12 "PinnedPantry$Store" "newRow" "LPinnedPantry$Row;", Cond.fieldLink RX1 18 "PinnedPantry$Store" "triedRow" "LPinnedPantry$Row;"]
def wsL_law0_r2 : List Cond := [Cond.fieldLink RX1 21 "PinnedPantry$Store" "newList" "LPinnedPantry$Row;", Cond.fieldLink RX1 24 "PinnedPantry$Store" "triedList" "LPinnedPantry$Row;", Cond.classLink RX1 27 RX2, Cond.instantiable RX2 1, Cond.initialized RX2, Cond.fieldLink RX1 30 "PinnedPantry$Store" "touches" "LPinnedPantry$Table;", Cond.fieldLink RX1 34 "PinnedPantry$Store" "pins" "LPinnedPantry$Table;", Cond.fieldLink RX1 37 "PinnedPantry$Store" "fetches" "LPinnedPantry$Table;", Cond.fieldLink RX1 40 "PinnedPantry$Store" "places" "I", Cond.methodLink RX1 11 yX0_init, Cond.instanceMethod yX0_init, Cond.code yX0_init cX0_init 1 none, Cond.methodLink RX0 3 objectInit, Cond.arrayClass .int, Cond.fieldLink RX0 9 "PinnedPantry$Row" "kinds" "[I", Cond.fieldLink RX0 15 "PinnedPantry$Row" "length" "I", Cond.methodLink RX1 29 yX2_init, Cond.instanceMethod yX2_init, Cond.code yX2_init cX2_init 1 none, Cond.methodLink RX2 3 objectInit, Cond.fieldLink RX2 9 "PinnedPantry$Table" "numbers" "[I", Cond.methodLink RL 93 yL_build, Cond.static yL_build, Cond.initialized RL]
def wsL_law0_r3 : List Cond := [Cond.code yL_build cL_build 5 (some (.object "PinnedPantryLaw$Sim")), Cond.classLink RL 26 RX5, Cond.instantiable RX5 8, Cond.initialized RX5, Cond.instanceMethod yX5_init, Cond.code yX5_init cX5_init 1 none, Cond.methodLink RX5 1 objectInit, Cond.fieldLink RX5 7 "PinnedPantryLaw$Sim" "places" "I", Cond.classLink RX5 13 "[LPinnedPantryLaw$Jar;", Cond.classLink RX5 15 RX4, Cond.fieldLink RX5 17 "PinnedPantryLaw$Sim" "shelves" "[[LPinnedPantryLaw$Jar;", Cond.classLink RX5 21 "[I", Cond.fieldLink RX5 23 "PinnedPantryLaw$Sim" "lists" "[[I", Cond.methodLink RL 84 yL_cell, Cond.static yL_cell, Cond.code yL_cell cL_cell 2 (some .int), Cond.constant RL 8 (790386105), Cond.methodLink RL 19 yL_below, Cond.static yL_below, Cond.code yL_below cL_below 2 (some .int), Cond.constant RL 7 (2147483647), Cond.methodLink RL 88 yL_act, Cond.static yL_act, Cond.code yL_act cL_act 10 (some .boolean)]
def wsL_law0_r4 : List Cond := [Cond.fieldLink RL 31 "PinnedPantryLaw$Jar" "pins" "I", Cond.fieldLink RL 41 "PinnedPantryLaw$Sim" "shelves" "[[LPinnedPantryLaw$Jar;", Cond.fieldLink RL 52 "PinnedPantryLaw$Jar" "fetched" "I", Cond.fieldLink RL 59 "PinnedPantryLaw$Sim" "places" "I", Cond.fieldLink RL 68 "PinnedPantryLaw$Sim" "goal" "I", Cond.methodLink RL 25 yX5_find, Cond.instanceMethod yX5_find, Cond.selects RX5 yX5_find yX5_find, Cond.code yX5_find cX5_find 10 (some (.object "PinnedPantryLaw$Jar")), Cond.fieldLink RX5 50 "PinnedPantryLaw$Jar" "kind" "I", Cond.methodLink RL 35 yX3_pin, Cond.instanceMethod yX3_pin, Cond.selects RX3 yX3_pin yX3_pin, Cond.code yX3_pin cX3_pin 2 (some .int), Cond.classLink RX3 27 "java/lang/IllegalStateException", Cond.initialized "java/lang/IllegalStateException", Cond.methodLink RX3 19 yX3_requireKind, Cond.static yX3_requireKind, Cond.code yX3_requireKind cX3_requireKind 1 none, Cond.classLink RX3 90 "java/lang/IndexOutOfBoundsException", Cond.initialized "java/lang/IndexOutOfBoundsException", Cond.methodLink RX3 42 yX3_requireJar, Cond.instanceMethod yX3_requireJar, Cond.selects RX3 yX3_requireJar yX3_requireJar]
def wsL_law0_r5 : List Cond := [Cond.code yX3_requireJar cX3_requireJar 2 none, Cond.methodLink RX3 165 yX1_hasJar, Cond.instanceMethod yX1_hasJar, Cond.selects RX1 yX1_hasJar yX1_hasJar, Cond.code yX1_hasJar cX1_hasJar 2 (some .boolean), Cond.methodLink RX1 66 yX0_has, Cond.instanceMethod yX0_has, Cond.selects RX0 yX0_has yX0_has, Cond.code yX0_has cX0_has 2 (some .boolean), Cond.methodLink RX0 19 yX0_placeOf, Cond.instanceMethod yX0_placeOf, Cond.selects RX0 yX0_placeOf yX0_placeOf, Cond.code yX0_placeOf cX0_placeOf 3 (some .int), Cond.methodLink RX3 49 yX2_of, Cond.instanceMethod yX2_of, Cond.selects RX2 yX2_of yX2_of, Cond.code yX2_of cX2_of 2 (some .int), Cond.methodLink RX3 56 yX1_changePins, Cond.instanceMethod yX1_changePins, Cond.selects RX1 yX1_changePins yX1_changePins, Cond.code yX1_changePins cX1_changePins 3 (some .int), Cond.methodLink RX1 81 yX2_of, Cond.methodLink RX1 97 yX2_put, Cond.instanceMethod yX2_put]
def wsL_law0_r6 : List Cond := [Cond.selects RX2 yX2_put yX2_put, Cond.code yX2_put cX2_put 3 none, Cond.methodLink RL 38 yX3_unpin, Cond.instanceMethod yX3_unpin, Cond.selects RX3 yX3_unpin yX3_unpin, Cond.code yX3_unpin cX3_unpin 2 (some .int), Cond.methodLink RL 45 yL_without, Cond.static yL_without, Cond.code yL_without cL_without 4 (some (.array (.object "PinnedPantryLaw$Jar"))), Cond.classLink RL 9 RX4, Cond.methodLink RL 49 yX3_eat, Cond.instanceMethod yX3_eat, Cond.selects RX3 yX3_eat yX3_eat, Cond.code yX3_eat cX3_eat 2 (some .int), Cond.methodLink RX3 64 yX1_remove, Cond.instanceMethod yX1_remove, Cond.selects RX1 yX1_remove yX1_remove, Cond.code yX1_remove cX1_remove 2 (some .int), Cond.methodLink RX1 124 yX0_placeOf, Cond.methodLink RX1 127 yX0_takeOut, Cond.instanceMethod yX0_takeOut, Cond.selects RX0 yX0_takeOut yX0_takeOut, Cond.code yX0_takeOut cX0_takeOut 3 none, Cond.methodLink RL 55 yX5_pinned]
def wsL_law0_r7 : List Cond := [Cond.instanceMethod yX5_pinned, Cond.selects RX5 yX5_pinned yX5_pinned, Cond.code yX5_pinned cX5_pinned 10 (some .int), Cond.fieldLink RX5 47 "PinnedPantryLaw$Jar" "pins" "I", Cond.methodLink RL 62 yX5_setPlaces, Cond.instanceMethod yX5_setPlaces, Cond.selects RX5 yX5_setPlaces yX5_setPlaces, Cond.code yX5_setPlaces cX5_setPlaces 3 none, Cond.fieldLink RX5 28 "PinnedPantryLaw$Sim" "goal" "I", Cond.methodLink RX5 83 yX5_all, Cond.instanceMethod yX5_all, Cond.selects RX5 yX5_all yX5_all, Cond.code yX5_all cX5_all 1 (some .int), Cond.methodLink RX5 94 yX5_sweep, Cond.instanceMethod yX5_sweep, Cond.selects RX5 yX5_sweep yX5_sweep, Cond.code yX5_sweep cX5_sweep 4 (some .int), Cond.fieldLink RX5 40 "PinnedPantryLaw$Sim" "looked" "I", Cond.fieldLink RX5 67 "PinnedPantryLaw$Jar" "isTouched" "Z", Cond.methodLink RX5 53 yX5_free, Cond.instanceMethod yX5_free, Cond.selects RX5 yX5_free yX5_free, Cond.code yX5_free cX5_free 7 (some .int), Cond.static yL_with]
def wsL_law0_r8 : List Cond := [Cond.code yL_with cL_with 4 (some (.array (.object "PinnedPantryLaw$Jar"))), Cond.static yL_with_, Cond.code yL_with_ cL_with_ 4 (some (.array .int)), Cond.static yL_without_, Cond.code yL_without_ cL_without_ 4 (some (.array .int)), Cond.methodLink RL 66 yX3_setPlaces, Cond.instanceMethod yX3_setPlaces, Cond.selects RX3 yX3_setPlaces yX3_setPlaces, Cond.code yX3_setPlaces cX3_setPlaces 3 (some .int), Cond.classLink RX3 67 "java/lang/IllegalArgumentException", Cond.initialized "java/lang/IllegalArgumentException", Cond.methodLink RX3 72 yX1_pinnedJars, Cond.instanceMethod yX1_pinnedJars, Cond.selects RX1 yX1_pinnedJars yX1_pinnedJars, Cond.code yX1_pinnedJars cX1_pinnedJars 1 (some .int), Cond.methodLink RX1 73 yX1_pinnedOn, Cond.instanceMethod yX1_pinnedOn, Cond.selects RX1 yX1_pinnedOn yX1_pinnedOn, Cond.code yX1_pinnedOn cX1_pinnedOn 4 (some .int), Cond.methodLink RX1 77 yX0_at, Cond.instanceMethod yX0_at, Cond.selects RX0 yX0_at yX0_at, Cond.code yX0_at cX0_at 2 (some .int), Cond.methodLink RX3 82 yX1_resize]
def wsL_law0_r9 : List Cond := [Cond.instanceMethod yX1_resize, Cond.selects RX1 yX1_resize yX1_resize, Cond.code yX1_resize cX1_resize 3 none, Cond.fieldLink RX1 51 "PinnedPantry$Store" "goal" "I", Cond.methodLink RX1 118 Lib.Math.min.name, Cond.static Lib.Math.min.name, Cond.initialized "java/lang/Math", Cond.code Lib.Math.min.name Lib.Math.min.code 2 (some .int), Cond.methodLink RX1 87 yX1_jars, Cond.instanceMethod yX1_jars, Cond.selects RX1 yX1_jars yX1_jars, Cond.code yX1_jars cX1_jars 1 (some .int), Cond.methodLink RX1 104 yX1_sweep, Cond.instanceMethod yX1_sweep, Cond.selects RX1 yX1_sweep yX1_sweep, Cond.code yX1_sweep cX1_sweep 5 (some .int), Cond.constant RX1 137 (1000000), Cond.fieldLink RX1 63 "PinnedPantry$Store" "looks" "I", Cond.methodLink RX1 91 yX1_pinnedJars, Cond.methodLink RX1 138 yX1_givingShelf, Cond.instanceMethod yX1_givingShelf, Cond.selects RX1 yX1_givingShelf yX1_givingShelf, Cond.code yX1_givingShelf cX1_givingShelf 4 (some .int), Cond.methodLink RX1 131 Lib.Math.max.name]
def wsL_law0_r10 : List Cond := [Cond.static Lib.Math.max.name, Cond.code Lib.Math.max.name Lib.Math.max.code 2 (some .int), Cond.methodLink RX1 141 yX1_rowOf, Cond.instanceMethod yX1_rowOf, Cond.selects RX1 yX1_rowOf yX1_rowOf, Cond.code yX1_rowOf cX1_rowOf 2 (some (.object "PinnedPantry$Row")), Cond.methodLink RX1 134 yX0_append, Cond.instanceMethod yX0_append, Cond.selects RX0 yX0_append yX0_append, Cond.code yX0_append cX0_append 2 none, Cond.methodLink RX1 145 yX1_listOf, Cond.instanceMethod yX1_listOf, Cond.selects RX1 yX1_listOf yX1_listOf, Cond.code yX1_listOf cX1_listOf 2 (some (.object "PinnedPantry$Row")), Cond.methodLink RX1 148 yX0_forgetEldest, Cond.instanceMethod yX0_forgetEldest, Cond.selects RX0 yX0_forgetEldest yX0_forgetEldest, Cond.code yX0_forgetEldest cX0_forgetEldest 3 none, Cond.methodLink RX0 23 yX0_takeOut, Cond.methodLink RL 71 yX3_setGoal, Cond.instanceMethod yX3_setGoal, Cond.selects RX3 yX3_setGoal yX3_setGoal, Cond.code yX3_setGoal cX3_setGoal 3 (some .int), Cond.methodLink RL 74 yX3_fetchAll]
def wsL_law0_r11 : List Cond := [Cond.instanceMethod yX3_fetchAll, Cond.selects RX3 yX3_fetchAll yX3_fetchAll, Cond.code yX3_fetchAll cX3_fetchAll 4 (some .int), Cond.methodLink RX3 34 yX3_requireSeries, Cond.static yX3_requireSeries, Cond.code yX3_requireSeries cX3_requireSeries 3 none, Cond.methodLink RX3 38 yX1_bringSeries, Cond.instanceMethod yX1_bringSeries, Cond.selects RX1 yX1_bringSeries yX1_bringSeries, Cond.code yX1_bringSeries cX1_bringSeries 6 (some .int), Cond.fieldLink RX1 54 "PinnedPantry$Store" "hits" "I", Cond.methodLink RX1 111 yX1_bring, Cond.instanceMethod yX1_bring, Cond.selects RX1 yX1_bring yX1_bring, Cond.code yX1_bring cX1_bring 3 (some .int), Cond.fieldLink RX1 57 "PinnedPantry$Store" "misses" "I", Cond.methodLink RX1 94 yX1_forecast, Cond.instanceMethod yX1_forecast, Cond.selects RX1 yX1_forecast yX1_forecast, Cond.code yX1_forecast cX1_forecast 2 (some .int), Cond.methodLink RX1 84 yX1_hasJar, Cond.methodLink RX1 101 yX1_recall, Cond.instanceMethod yX1_recall, Cond.selects RX1 yX1_recall yX1_recall]
def wsL_law0_r12 : List Cond := [Cond.code yX1_recall cX1_recall 3 none, Cond.fieldLink RX1 60 "PinnedPantry$Store" "rememberedMisses" "I", Cond.methodLink RX1 114 yX1_turn, Cond.static yX1_turn, Cond.code yX1_turn cX1_turn 3 (some .int), Cond.methodLink RX1 107 yX1_placeNewJar, Cond.instanceMethod yX1_placeNewJar, Cond.selects RX1 yX1_placeNewJar yX1_placeNewJar, Cond.code yX1_placeNewJar cX1_placeNewJar 3 none, Cond.methodLink RL 78 yX5_fetchAll, Cond.instanceMethod yX5_fetchAll, Cond.selects RX5 yX5_fetchAll yX5_fetchAll, Cond.code yX5_fetchAll cX5_fetchAll 7 (some .int), Cond.methodLink RX5 100 yX5_fetch, Cond.instanceMethod yX5_fetch, Cond.selects RX5 yX5_fetch yX5_fetch, Cond.code yX5_fetch cX5_fetch 5 (some .int), Cond.fieldLink RX5 80 "PinnedPantryLaw$Jar" "fetched" "I", Cond.fieldLink RX5 31 "PinnedPantryLaw$Sim" "hits" "I", Cond.fieldLink RX5 34 "PinnedPantryLaw$Sim" "misses" "I", Cond.fieldLink RX5 37 "PinnedPantryLaw$Sim" "remembered" "I", Cond.instantiable RX4 4, Cond.initialized RX4, Cond.methodLink RX5 76 yX5_find]
def wsL_law0_r13 : List Cond := [Cond.methodLink RX5 87 yX5_pinned, Cond.methodLink RX5 90 yX5_list, Cond.instanceMethod yX5_list, Cond.selects RX5 yX5_list yX5_list, Cond.code yX5_list cX5_list 4 (some (.array .int)), Cond.methodLink RX5 97 yX4_init, Cond.instanceMethod yX4_init, Cond.code yX4_init cX4_init 2 none, Cond.methodLink RX4 1 objectInit, Cond.fieldLink RX4 7 "PinnedPantryLaw$Jar" "fetched" "I", Cond.fieldLink RX4 13 "PinnedPantryLaw$Jar" "kind" "I", Cond.methodLink RL 79 yL_fetch, Cond.static yL_fetch, Cond.codeWith yL_fetch cL_fetch 3 (some .int) [(0, 5, 6, 17)], Cond.classLink RL 17 "java/lang/IllegalStateException", Cond.methodLink RL 11 yX3_fetch, Cond.instanceMethod yX3_fetch, Cond.selects RX3 yX3_fetch yX3_fetch, Cond.code yX3_fetch cX3_fetch 3 (some .int), Cond.methodLink RX3 23 yX1_bring, Cond.methodLink RL 82 yX5_fetch, Cond.methodLink RL 97 yX3_count, Cond.instanceMethod yX3_count, Cond.selects RX3 yX3_count yX3_count]
def wsL_law0_r14 : List Cond := [Cond.code yX3_count cX3_count 2 (some .int), Cond.methodLink RX3 114 yX1_tally, Cond.instanceMethod yX1_tally, Cond.selects RX1 yX1_tally yX1_tally, Cond.code yX1_tally cX1_tally 2 (some .int), Cond.methodLink RL 100 yX3_jar, Cond.instanceMethod yX3_jar, Cond.selects RX3 yX3_jar yX3_jar, Cond.code yX3_jar cX3_jar 3 (some .int), Cond.methodLink RX3 95 yX1_detail, Cond.instanceMethod yX1_detail, Cond.selects RX1 yX1_detail yX1_detail, Cond.code yX1_detail cX1_detail 5 (some .int), Cond.methodLink RL 103 yX3_next, Cond.instanceMethod yX3_next, Cond.selects RX3 yX3_next yX3_next, Cond.code yX3_next cX3_next 1 (some .int), Cond.methodLink RX3 117 yX1_become, Cond.instanceMethod yX1_become, Cond.selects RX1 yX1_become yX1_become, Cond.code yX1_become cX1_become 2 none, Cond.methodLink RX1 44 yX0_become, Cond.instanceMethod yX0_become, Cond.selects RX0 yX0_become yX0_become]
def wsL_law0_r15 : List Cond := [Cond.code yX0_become cX0_become 3 none, Cond.methodLink RX1 48 yX2_become, Cond.instanceMethod yX2_become, Cond.selects RX2 yX2_become yX2_become, Cond.code yX2_become cX2_become 3 none, Cond.methodLink RX3 121 yX1_sweep, Cond.methodLink RL 106 yX5_isSame, Cond.instanceMethod yX5_isSame, Cond.selects RX5 yX5_isSame yX5_isSame, Cond.code yX5_isSame cX5_isSame 9 (some .boolean), Cond.methodLink RX5 103 yX3_jar, Cond.methodLink RX5 109 yX3_shelf, Cond.instanceMethod yX3_shelf, Cond.selects RX3 yX3_shelf yX3_shelf, Cond.code yX3_shelf cX3_shelf 3 (some .int), Cond.methodLink RX3 98 yX3_requireShelf, Cond.static yX3_requireShelf, Cond.code yX3_requireShelf cX3_requireShelf 1 none, Cond.methodLink RX3 101 yX1_rowOf, Cond.methodLink RX3 105 yX3_requireAt, Cond.static yX3_requireAt, Cond.code yX3_requireAt cX3_requireAt 3 (some .int), Cond.methodLink RX3 160 yX0_at, Cond.methodLink RX5 112 yX3_ghost]
def wsL_law0_r16 : List Cond := [Cond.instanceMethod yX3_ghost, Cond.selects RX3 yX3_ghost yX3_ghost, Cond.code yX3_ghost cX3_ghost 3 (some .int), Cond.methodLink RX3 109 yX1_listOf, Cond.methodLink RX5 115 yX3_count, Cond.methodLink RX5 118 yX3_mean, Cond.instanceMethod yX3_mean, Cond.selects RX3 yX3_mean yX3_mean, Cond.code yX3_mean cX3_mean 2 (some .double), Cond.methodLink RX3 132 yX1_jars, Cond.methodLink RX3 135 yX1_fetchesOfAll, Cond.instanceMethod yX1_fetchesOfAll, Cond.selects RX1 yX1_fetchesOfAll yX1_fetchesOfAll, Cond.code yX1_fetchesOfAll cX1_fetchesOfAll 3 (some .int)]
def wsL_law0 : List Cond := (wsL_law0_r1 ++ (wsL_law0_r2 ++ (wsL_law0_r3 ++ (wsL_law0_r4 ++ (wsL_law0_r5 ++ (wsL_law0_r6 ++ (wsL_law0_r7 ++ (wsL_law0_r8 ++ (wsL_law0_r9 ++ (wsL_law0_r10 ++ (wsL_law0_r11 ++ (wsL_law0_r12 ++ (wsL_law0_r13 ++ (wsL_law0_r14 ++ (wsL_law0_r15 ++ wsL_law0_r16))))))))))))))) ++ wsX30 ++ wsX10 ++ wsX00 ++ wsX20 ++ wsX50 ++ wsX40 ++ ([] : List Cond)
def wsL_law : List Cond := wsL_law0 ++ (vx_atS RX3 31 "java/lang/IllegalStateException" ["java/lang/RuntimeException", "java/lang/Exception"]).filter goodWord ++ (vx_atS RX3 94 "java/lang/IndexOutOfBoundsException" ["java/lang/RuntimeException", "java/lang/Exception"]).filter goodWord ++ (vx_atS RX3 71 "java/lang/IllegalArgumentException" ["java/lang/RuntimeException", "java/lang/Exception"]).filter goodWord
theorem inlX0 : ∀ w ∈ wsX00, w ∈ wsL_law := fun _ h => List.mem_append_left _ (List.mem_append_left _ (List.mem_append_left _ (List.mem_append_left _ (List.mem_append_left _ (List.mem_append_left _ (List.mem_append_left _ (List.mem_append_right _ h)))))))
theorem inlX1 : ∀ w ∈ wsX10, w ∈ wsL_law := fun _ h => List.mem_append_left _ (List.mem_append_left _ (List.mem_append_left _ (List.mem_append_left _ (List.mem_append_left _ (List.mem_append_left _ (List.mem_append_left _ (List.mem_append_left _ (List.mem_append_right _ h))))))))
theorem inlX2 : ∀ w ∈ wsX20, w ∈ wsL_law := fun _ h => List.mem_append_left _ (List.mem_append_left _ (List.mem_append_left _ (List.mem_append_left _ (List.mem_append_left _ (List.mem_append_left _ (List.mem_append_right _ h))))))
theorem inlX3 : ∀ w ∈ wsX30, w ∈ wsL_law := fun _ h => List.mem_append_left _ (List.mem_append_left _ (List.mem_append_left _ (List.mem_append_left _ (List.mem_append_left _ (List.mem_append_left _ (List.mem_append_left _ (List.mem_append_left _ (List.mem_append_left _ (List.mem_append_right _ h)))))))))
theorem inlX4 : ∀ w ∈ wsX40, w ∈ wsL_law := fun _ h => List.mem_append_left _ (List.mem_append_left _ (List.mem_append_left _ (List.mem_append_left _ (List.mem_append_right _ h))))
theorem inlX5 : ∀ w ∈ wsX50, w ∈ wsL_law := fun _ h => List.mem_append_left _ (List.mem_append_left _ (List.mem_append_left _ (List.mem_append_left _ (List.mem_append_left _ (List.mem_append_right _ h)))))
abbrev vwCl : List vw_C := [(RX0, TX0, 2), (RX1, TX1, 13), (RX2, TX2, 1), (RX3, TX3, 2), (RX4, TX4, 4), (RX5, TX5, 8)]
end
section
theorem dX0_init_0 : decode cX0_init 0 = .ok (.aload_n 0, 1) := by decide +kernel
theorem dX0_init_1 : decode cX0_init 1 = .ok (.invokespecial 3, 3) := by decide +kernel
theorem dX0_init_4 : decode cX0_init 4 = .ok (.aload_n 0, 1) := by decide +kernel
theorem dX0_init_5 : decode cX0_init 5 = .ok (.bipush 40, 2) := by decide +kernel
theorem dX0_init_7 : decode cX0_init 7 = .ok (.newarray .int, 2) := by decide +kernel
theorem dX0_init_9 : decode cX0_init 9 = .ok (.putfield 9, 3) := by decide +kernel
theorem dX0_init_12 : decode cX0_init 12 = .ok (.aload_n 0, 1) := by decide +kernel
theorem dX0_init_13 : decode cX0_init 13 = .ok (.iconst 0, 1) := by decide +kernel
theorem dX0_init_14 : decode cX0_init 14 = .ok (.putfield 15, 3) := by decide +kernel
theorem dX0_init_17 : decode cX0_init 17 = .ok (.return_, 1) := by decide +kernel
theorem dX0_become_0 : decode cX0_become 0 = .ok (.iconst 0, 1) := by decide +kernel
theorem dX0_become_1 : decode cX0_become 1 = .ok (.istore_n 2, 1) := by decide +kernel
theorem dX0_become_2 : decode cX0_become 2 = .ok (.iload_n 2, 1) := by decide +kernel
theorem dX0_become_3 : decode cX0_become 3 = .ok (.aload_n 0, 1) := by decide +kernel
theorem dX0_become_4 : decode cX0_become 4 = .ok (.getfield 9, 3) := by decide +kernel
theorem dX0_become_7 : decode cX0_become 7 = .ok (.arraylength, 1) := by decide +kernel
theorem dX0_become_8 : decode cX0_become 8 = .ok (.if_icmp .ge 30, 3) := by decide +kernel
theorem dX0_become_11 : decode cX0_become 11 = .ok (.iload_n 2, 1) := by decide +kernel
theorem dX0_become_12 : decode cX0_become 12 = .ok (.aload_n 1, 1) := by decide +kernel
theorem dX0_become_13 : decode cX0_become 13 = .ok (.getfield 9, 3) := by decide +kernel
theorem dX0_become_16 : decode cX0_become 16 = .ok (.arraylength, 1) := by decide +kernel
theorem dX0_become_17 : decode cX0_become 17 = .ok (.if_icmp .ge 21, 3) := by decide +kernel
theorem dX0_become_20 : decode cX0_become 20 = .ok (.aload_n 0, 1) := by decide +kernel
theorem dX0_become_21 : decode cX0_become 21 = .ok (.getfield 9, 3) := by decide +kernel
theorem dX0_become_24 : decode cX0_become 24 = .ok (.iload_n 2, 1) := by decide +kernel
theorem dX0_become_25 : decode cX0_become 25 = .ok (.aload_n 1, 1) := by decide +kernel
theorem dX0_become_26 : decode cX0_become 26 = .ok (.getfield 9, 3) := by decide +kernel
theorem dX0_become_29 : decode cX0_become 29 = .ok (.iload_n 2, 1) := by decide +kernel
theorem dX0_become_30 : decode cX0_become 30 = .ok (.iaload, 1) := by decide +kernel
theorem dX0_become_31 : decode cX0_become 31 = .ok (.iastore, 1) := by decide +kernel
theorem dX0_become_32 : decode cX0_become 32 = .ok (.iinc 2 1, 3) := by decide +kernel
theorem dX0_become_35 : decode cX0_become 35 = .ok (.goto (-33), 3) := by decide +kernel
theorem dX0_become_38 : decode cX0_become 38 = .ok (.aload_n 0, 1) := by decide +kernel
theorem dX0_become_39 : decode cX0_become 39 = .ok (.aload_n 1, 1) := by decide +kernel
theorem dX0_become_40 : decode cX0_become 40 = .ok (.getfield 15, 3) := by decide +kernel
theorem dX0_become_43 : decode cX0_become 43 = .ok (.putfield 15, 3) := by decide +kernel
theorem dX0_become_46 : decode cX0_become 46 = .ok (.return_, 1) := by decide +kernel
theorem dX0_at_0 : decode cX0_at 0 = .ok (.iload_n 1, 1) := by decide +kernel
theorem dX0_at_1 : decode cX0_at 1 = .ok (.ifCond .lt 29, 3) := by decide +kernel
theorem dX0_at_4 : decode cX0_at 4 = .ok (.iload_n 1, 1) := by decide +kernel
theorem dX0_at_5 : decode cX0_at 5 = .ok (.aload_n 0, 1) := by decide +kernel
theorem dX0_at_6 : decode cX0_at 6 = .ok (.getfield 15, 3) := by decide +kernel
theorem dX0_at_9 : decode cX0_at 9 = .ok (.if_icmp .ge 21, 3) := by decide +kernel
theorem dX0_at_12 : decode cX0_at 12 = .ok (.iload_n 1, 1) := by decide +kernel
theorem dX0_at_13 : decode cX0_at 13 = .ok (.aload_n 0, 1) := by decide +kernel
theorem dX0_at_14 : decode cX0_at 14 = .ok (.getfield 9, 3) := by decide +kernel
theorem dX0_at_17 : decode cX0_at 17 = .ok (.arraylength, 1) := by decide +kernel
theorem dX0_at_18 : decode cX0_at 18 = .ok (.if_icmp .ge 12, 3) := by decide +kernel
theorem dX0_at_21 : decode cX0_at 21 = .ok (.aload_n 0, 1) := by decide +kernel
theorem dX0_at_22 : decode cX0_at 22 = .ok (.getfield 9, 3) := by decide +kernel
theorem dX0_at_25 : decode cX0_at 25 = .ok (.iload_n 1, 1) := by decide +kernel
theorem dX0_at_26 : decode cX0_at 26 = .ok (.iaload, 1) := by decide +kernel
theorem dX0_at_27 : decode cX0_at 27 = .ok (.goto 4, 3) := by decide +kernel
theorem dX0_at_30 : decode cX0_at 30 = .ok (.iconst (-1), 1) := by decide +kernel
theorem dX0_at_31 : decode cX0_at 31 = .ok (.ireturn, 1) := by decide +kernel
theorem dX0_placeOf_0 : decode cX0_placeOf 0 = .ok (.iconst 0, 1) := by decide +kernel
theorem dX0_placeOf_1 : decode cX0_placeOf 1 = .ok (.istore_n 2, 1) := by decide +kernel
theorem dX0_placeOf_2 : decode cX0_placeOf 2 = .ok (.iload_n 2, 1) := by decide +kernel
theorem dX0_placeOf_3 : decode cX0_placeOf 3 = .ok (.aload_n 0, 1) := by decide +kernel
theorem dX0_placeOf_4 : decode cX0_placeOf 4 = .ok (.getfield 15, 3) := by decide +kernel
theorem dX0_placeOf_7 : decode cX0_placeOf 7 = .ok (.if_icmp .ge 30, 3) := by decide +kernel
theorem dX0_placeOf_10 : decode cX0_placeOf 10 = .ok (.iload_n 2, 1) := by decide +kernel
theorem dX0_placeOf_11 : decode cX0_placeOf 11 = .ok (.aload_n 0, 1) := by decide +kernel
theorem dX0_placeOf_12 : decode cX0_placeOf 12 = .ok (.getfield 9, 3) := by decide +kernel
theorem dX0_placeOf_15 : decode cX0_placeOf 15 = .ok (.arraylength, 1) := by decide +kernel
theorem dX0_placeOf_16 : decode cX0_placeOf 16 = .ok (.if_icmp .ge 21, 3) := by decide +kernel
theorem dX0_placeOf_19 : decode cX0_placeOf 19 = .ok (.aload_n 0, 1) := by decide +kernel
theorem dX0_placeOf_20 : decode cX0_placeOf 20 = .ok (.getfield 9, 3) := by decide +kernel
theorem dX0_placeOf_23 : decode cX0_placeOf 23 = .ok (.iload_n 2, 1) := by decide +kernel
theorem dX0_placeOf_24 : decode cX0_placeOf 24 = .ok (.iaload, 1) := by decide +kernel
theorem dX0_placeOf_25 : decode cX0_placeOf 25 = .ok (.iload_n 1, 1) := by decide +kernel
theorem dX0_placeOf_26 : decode cX0_placeOf 26 = .ok (.if_icmp .ne 5, 3) := by decide +kernel
theorem dX0_placeOf_29 : decode cX0_placeOf 29 = .ok (.iload_n 2, 1) := by decide +kernel
theorem dX0_placeOf_30 : decode cX0_placeOf 30 = .ok (.ireturn, 1) := by decide +kernel
theorem dX0_placeOf_31 : decode cX0_placeOf 31 = .ok (.iinc 2 1, 3) := by decide +kernel
theorem dX0_placeOf_34 : decode cX0_placeOf 34 = .ok (.goto (-32), 3) := by decide +kernel
theorem dX0_placeOf_37 : decode cX0_placeOf 37 = .ok (.iconst (-1), 1) := by decide +kernel
theorem dX0_placeOf_38 : decode cX0_placeOf 38 = .ok (.ireturn, 1) := by decide +kernel
theorem dX0_has_0 : decode cX0_has 0 = .ok (.aload_n 0, 1) := by decide +kernel
theorem dX0_has_1 : decode cX0_has 1 = .ok (.iload_n 1, 1) := by decide +kernel
theorem dX0_has_2 : decode cX0_has 2 = .ok (.invokevirtual 19, 3) := by decide +kernel
theorem dX0_has_5 : decode cX0_has 5 = .ok (.iconst (-1), 1) := by decide +kernel
theorem dX0_has_6 : decode cX0_has 6 = .ok (.if_icmp .eq 7, 3) := by decide +kernel
theorem dX0_has_9 : decode cX0_has 9 = .ok (.iconst 1, 1) := by decide +kernel
theorem dX0_has_10 : decode cX0_has 10 = .ok (.goto 4, 3) := by decide +kernel
theorem dX0_has_13 : decode cX0_has 13 = .ok (.iconst 0, 1) := by decide +kernel
theorem dX0_has_14 : decode cX0_has 14 = .ok (.ireturn, 1) := by decide +kernel
theorem dX0_append_0 : decode cX0_append 0 = .ok (.aload_n 0, 1) := by decide +kernel
theorem dX0_append_1 : decode cX0_append 1 = .ok (.getfield 15, 3) := by decide +kernel
theorem dX0_append_4 : decode cX0_append 4 = .ok (.ifCond .lt 35, 3) := by decide +kernel
theorem dX0_append_7 : decode cX0_append 7 = .ok (.aload_n 0, 1) := by decide +kernel
theorem dX0_append_8 : decode cX0_append 8 = .ok (.getfield 15, 3) := by decide +kernel
theorem dX0_append_11 : decode cX0_append 11 = .ok (.aload_n 0, 1) := by decide +kernel
theorem dX0_append_12 : decode cX0_append 12 = .ok (.getfield 9, 3) := by decide +kernel
theorem dX0_append_15 : decode cX0_append 15 = .ok (.arraylength, 1) := by decide +kernel
theorem dX0_append_16 : decode cX0_append 16 = .ok (.if_icmp .ge 23, 3) := by decide +kernel
theorem dX0_append_19 : decode cX0_append 19 = .ok (.aload_n 0, 1) := by decide +kernel
theorem dX0_append_20 : decode cX0_append 20 = .ok (.getfield 9, 3) := by decide +kernel
theorem dX0_append_23 : decode cX0_append 23 = .ok (.aload_n 0, 1) := by decide +kernel
theorem dX0_append_24 : decode cX0_append 24 = .ok (.getfield 15, 3) := by decide +kernel
theorem dX0_append_27 : decode cX0_append 27 = .ok (.iload_n 1, 1) := by decide +kernel
theorem dX0_append_28 : decode cX0_append 28 = .ok (.iastore, 1) := by decide +kernel
theorem dX0_append_29 : decode cX0_append 29 = .ok (.aload_n 0, 1) := by decide +kernel
theorem dX0_append_30 : decode cX0_append 30 = .ok (.dup, 1) := by decide +kernel
theorem dX0_append_31 : decode cX0_append 31 = .ok (.getfield 15, 3) := by decide +kernel
theorem dX0_append_34 : decode cX0_append 34 = .ok (.iconst 1, 1) := by decide +kernel
theorem dX0_append_35 : decode cX0_append 35 = .ok (.iadd, 1) := by decide +kernel
theorem dX0_append_36 : decode cX0_append 36 = .ok (.putfield 15, 3) := by decide +kernel
theorem dX0_append_39 : decode cX0_append 39 = .ok (.return_, 1) := by decide +kernel
theorem dX0_takeOut_0 : decode cX0_takeOut 0 = .ok (.iload_n 1, 1) := by decide +kernel
theorem dX0_takeOut_1 : decode cX0_takeOut 1 = .ok (.ifCond .lt 11, 3) := by decide +kernel
theorem dX0_takeOut_4 : decode cX0_takeOut 4 = .ok (.iload_n 1, 1) := by decide +kernel
theorem dX0_takeOut_5 : decode cX0_takeOut 5 = .ok (.aload_n 0, 1) := by decide +kernel
theorem dX0_takeOut_6 : decode cX0_takeOut 6 = .ok (.getfield 15, 3) := by decide +kernel
theorem dX0_takeOut_9 : decode cX0_takeOut 9 = .ok (.if_icmp .lt 4, 3) := by decide +kernel
theorem dX0_takeOut_12 : decode cX0_takeOut 12 = .ok (.return_, 1) := by decide +kernel
theorem dX0_takeOut_13 : decode cX0_takeOut 13 = .ok (.iload_n 1, 1) := by decide +kernel
theorem dX0_takeOut_14 : decode cX0_takeOut 14 = .ok (.iconst 1, 1) := by decide +kernel
theorem dX0_takeOut_15 : decode cX0_takeOut 15 = .ok (.iadd, 1) := by decide +kernel
theorem dX0_takeOut_16 : decode cX0_takeOut 16 = .ok (.istore_n 2, 1) := by decide +kernel
theorem dX0_takeOut_17 : decode cX0_takeOut 17 = .ok (.iload_n 2, 1) := by decide +kernel
theorem dX0_takeOut_18 : decode cX0_takeOut 18 = .ok (.aload_n 0, 1) := by decide +kernel
theorem dX0_takeOut_19 : decode cX0_takeOut 19 = .ok (.getfield 15, 3) := by decide +kernel
theorem dX0_takeOut_22 : decode cX0_takeOut 22 = .ok (.if_icmp .ge 32, 3) := by decide +kernel
theorem dX0_takeOut_25 : decode cX0_takeOut 25 = .ok (.iload_n 2, 1) := by decide +kernel
theorem dX0_takeOut_26 : decode cX0_takeOut 26 = .ok (.aload_n 0, 1) := by decide +kernel
theorem dX0_takeOut_27 : decode cX0_takeOut 27 = .ok (.getfield 9, 3) := by decide +kernel
theorem dX0_takeOut_30 : decode cX0_takeOut 30 = .ok (.arraylength, 1) := by decide +kernel
theorem dX0_takeOut_31 : decode cX0_takeOut 31 = .ok (.if_icmp .ge 23, 3) := by decide +kernel
theorem dX0_takeOut_34 : decode cX0_takeOut 34 = .ok (.aload_n 0, 1) := by decide +kernel
theorem dX0_takeOut_35 : decode cX0_takeOut 35 = .ok (.getfield 9, 3) := by decide +kernel
theorem dX0_takeOut_38 : decode cX0_takeOut 38 = .ok (.iload_n 2, 1) := by decide +kernel
theorem dX0_takeOut_39 : decode cX0_takeOut 39 = .ok (.iconst 1, 1) := by decide +kernel
theorem dX0_takeOut_40 : decode cX0_takeOut 40 = .ok (.isub, 1) := by decide +kernel
theorem dX0_takeOut_41 : decode cX0_takeOut 41 = .ok (.aload_n 0, 1) := by decide +kernel
theorem dX0_takeOut_42 : decode cX0_takeOut 42 = .ok (.getfield 9, 3) := by decide +kernel
theorem dX0_takeOut_45 : decode cX0_takeOut 45 = .ok (.iload_n 2, 1) := by decide +kernel
theorem dX0_takeOut_46 : decode cX0_takeOut 46 = .ok (.iaload, 1) := by decide +kernel
theorem dX0_takeOut_47 : decode cX0_takeOut 47 = .ok (.iastore, 1) := by decide +kernel
theorem dX0_takeOut_48 : decode cX0_takeOut 48 = .ok (.iinc 2 1, 3) := by decide +kernel
theorem dX0_takeOut_51 : decode cX0_takeOut 51 = .ok (.goto (-34), 3) := by decide +kernel
theorem dX0_takeOut_54 : decode cX0_takeOut 54 = .ok (.aload_n 0, 1) := by decide +kernel
theorem dX0_takeOut_55 : decode cX0_takeOut 55 = .ok (.dup, 1) := by decide +kernel
theorem dX0_takeOut_56 : decode cX0_takeOut 56 = .ok (.getfield 15, 3) := by decide +kernel
theorem dX0_takeOut_59 : decode cX0_takeOut 59 = .ok (.iconst 1, 1) := by decide +kernel
theorem dX0_takeOut_60 : decode cX0_takeOut 60 = .ok (.isub, 1) := by decide +kernel
theorem dX0_takeOut_61 : decode cX0_takeOut 61 = .ok (.putfield 15, 3) := by decide +kernel
theorem dX0_takeOut_64 : decode cX0_takeOut 64 = .ok (.return_, 1) := by decide +kernel
theorem dX0_forgetEldest_0 : decode cX0_forgetEldest 0 = .ok (.aload_n 0, 1) := by decide +kernel
theorem dX0_forgetEldest_1 : decode cX0_forgetEldest 1 = .ok (.getfield 15, 3) := by decide +kernel
theorem dX0_forgetEldest_4 : decode cX0_forgetEldest 4 = .ok (.iload_n 1, 1) := by decide +kernel
theorem dX0_forgetEldest_5 : decode cX0_forgetEldest 5 = .ok (.isub, 1) := by decide +kernel
theorem dX0_forgetEldest_6 : decode cX0_forgetEldest 6 = .ok (.istore_n 2, 1) := by decide +kernel
theorem dX0_forgetEldest_7 : decode cX0_forgetEldest 7 = .ok (.iload_n 2, 1) := by decide +kernel
theorem dX0_forgetEldest_8 : decode cX0_forgetEldest 8 = .ok (.ifCond .le 14, 3) := by decide +kernel
theorem dX0_forgetEldest_11 : decode cX0_forgetEldest 11 = .ok (.aload_n 0, 1) := by decide +kernel
theorem dX0_forgetEldest_12 : decode cX0_forgetEldest 12 = .ok (.iconst 0, 1) := by decide +kernel
theorem dX0_forgetEldest_13 : decode cX0_forgetEldest 13 = .ok (.invokevirtual 23, 3) := by decide +kernel
theorem dX0_forgetEldest_16 : decode cX0_forgetEldest 16 = .ok (.iinc 2 (-1), 3) := by decide +kernel
theorem dX0_forgetEldest_19 : decode cX0_forgetEldest 19 = .ok (.goto (-12), 3) := by decide +kernel
theorem dX0_forgetEldest_22 : decode cX0_forgetEldest 22 = .ok (.return_, 1) := by decide +kernel
theorem dX1_init_0 : decode cX1_init 0 = .ok (.aload_n 0, 1) := by decide +kernel
theorem dX1_init_1 : decode cX1_init 1 = .ok (.invokespecial 3, 3) := by decide +kernel
theorem dX1_init_4 : decode cX1_init 4 = .ok (.aload_n 0, 1) := by decide +kernel
theorem dX1_init_5 : decode cX1_init 5 = .ok (.new 9, 3) := by decide +kernel
theorem dX1_init_8 : decode cX1_init 8 = .ok (.dup, 1) := by decide +kernel
theorem dX1_init_9 : decode cX1_init 9 = .ok (.invokespecial 11, 3) := by decide +kernel
theorem dX1_init_12 : decode cX1_init 12 = .ok (.putfield 12, 3) := by decide +kernel
theorem dX1_init_15 : decode cX1_init 15 = .ok (.aload_n 0, 1) := by decide +kernel
theorem dX1_init_16 : decode cX1_init 16 = .ok (.new 9, 3) := by decide +kernel
theorem dX1_init_19 : decode cX1_init 19 = .ok (.dup, 1) := by decide +kernel
theorem dX1_init_20 : decode cX1_init 20 = .ok (.invokespecial 11, 3) := by decide +kernel
theorem dX1_init_23 : decode cX1_init 23 = .ok (.putfield 18, 3) := by decide +kernel
theorem dX1_init_26 : decode cX1_init 26 = .ok (.aload_n 0, 1) := by decide +kernel
theorem dX1_init_27 : decode cX1_init 27 = .ok (.new 9, 3) := by decide +kernel
theorem dX1_init_30 : decode cX1_init 30 = .ok (.dup, 1) := by decide +kernel
theorem dX1_init_31 : decode cX1_init 31 = .ok (.invokespecial 11, 3) := by decide +kernel
theorem dX1_init_34 : decode cX1_init 34 = .ok (.putfield 21, 3) := by decide +kernel
theorem dX1_init_37 : decode cX1_init 37 = .ok (.aload_n 0, 1) := by decide +kernel
theorem dX1_init_38 : decode cX1_init 38 = .ok (.new 9, 3) := by decide +kernel
theorem dX1_init_41 : decode cX1_init 41 = .ok (.dup, 1) := by decide +kernel
theorem dX1_init_42 : decode cX1_init 42 = .ok (.invokespecial 11, 3) := by decide +kernel
theorem dX1_init_45 : decode cX1_init 45 = .ok (.putfield 24, 3) := by decide +kernel
theorem dX1_init_48 : decode cX1_init 48 = .ok (.aload_n 0, 1) := by decide +kernel
theorem dX1_init_49 : decode cX1_init 49 = .ok (.new 27, 3) := by decide +kernel
theorem dX1_init_52 : decode cX1_init 52 = .ok (.dup, 1) := by decide +kernel
theorem dX1_init_53 : decode cX1_init 53 = .ok (.invokespecial 29, 3) := by decide +kernel
theorem dX1_init_56 : decode cX1_init 56 = .ok (.putfield 30, 3) := by decide +kernel
theorem dX1_init_59 : decode cX1_init 59 = .ok (.aload_n 0, 1) := by decide +kernel
theorem dX1_init_60 : decode cX1_init 60 = .ok (.new 27, 3) := by decide +kernel
theorem dX1_init_63 : decode cX1_init 63 = .ok (.dup, 1) := by decide +kernel
theorem dX1_init_64 : decode cX1_init 64 = .ok (.invokespecial 29, 3) := by decide +kernel
theorem dX1_init_67 : decode cX1_init 67 = .ok (.putfield 34, 3) := by decide +kernel
theorem dX1_init_70 : decode cX1_init 70 = .ok (.aload_n 0, 1) := by decide +kernel
theorem dX1_init_71 : decode cX1_init 71 = .ok (.new 27, 3) := by decide +kernel
theorem dX1_init_74 : decode cX1_init 74 = .ok (.dup, 1) := by decide +kernel
theorem dX1_init_75 : decode cX1_init 75 = .ok (.invokespecial 29, 3) := by decide +kernel
theorem dX1_init_78 : decode cX1_init 78 = .ok (.putfield 37, 3) := by decide +kernel
theorem dX1_init_81 : decode cX1_init 81 = .ok (.aload_n 0, 1) := by decide +kernel
theorem dX1_init_82 : decode cX1_init 82 = .ok (.bipush 6, 2) := by decide +kernel
theorem dX1_init_84 : decode cX1_init 84 = .ok (.putfield 40, 3) := by decide +kernel
theorem dX1_init_87 : decode cX1_init 87 = .ok (.return_, 1) := by decide +kernel
theorem dX1_become_0 : decode cX1_become 0 = .ok (.aload_n 0, 1) := by decide +kernel
theorem dX1_become_1 : decode cX1_become 1 = .ok (.getfield 12, 3) := by decide +kernel
theorem dX1_become_4 : decode cX1_become 4 = .ok (.aload_n 1, 1) := by decide +kernel
theorem dX1_become_5 : decode cX1_become 5 = .ok (.getfield 12, 3) := by decide +kernel
theorem dX1_become_8 : decode cX1_become 8 = .ok (.invokevirtual 44, 3) := by decide +kernel
theorem dX1_become_11 : decode cX1_become 11 = .ok (.aload_n 0, 1) := by decide +kernel
theorem dX1_become_12 : decode cX1_become 12 = .ok (.getfield 18, 3) := by decide +kernel
theorem dX1_become_15 : decode cX1_become 15 = .ok (.aload_n 1, 1) := by decide +kernel
theorem dX1_become_16 : decode cX1_become 16 = .ok (.getfield 18, 3) := by decide +kernel
theorem dX1_become_19 : decode cX1_become 19 = .ok (.invokevirtual 44, 3) := by decide +kernel
theorem dX1_become_22 : decode cX1_become 22 = .ok (.aload_n 0, 1) := by decide +kernel
theorem dX1_become_23 : decode cX1_become 23 = .ok (.getfield 21, 3) := by decide +kernel
theorem dX1_become_26 : decode cX1_become 26 = .ok (.aload_n 1, 1) := by decide +kernel
theorem dX1_become_27 : decode cX1_become 27 = .ok (.getfield 21, 3) := by decide +kernel
theorem dX1_become_30 : decode cX1_become 30 = .ok (.invokevirtual 44, 3) := by decide +kernel
theorem dX1_become_33 : decode cX1_become 33 = .ok (.aload_n 0, 1) := by decide +kernel
theorem dX1_become_34 : decode cX1_become 34 = .ok (.getfield 24, 3) := by decide +kernel
theorem dX1_become_37 : decode cX1_become 37 = .ok (.aload_n 1, 1) := by decide +kernel
theorem dX1_become_38 : decode cX1_become 38 = .ok (.getfield 24, 3) := by decide +kernel
theorem dX1_become_41 : decode cX1_become 41 = .ok (.invokevirtual 44, 3) := by decide +kernel
theorem dX1_become_44 : decode cX1_become 44 = .ok (.aload_n 0, 1) := by decide +kernel
theorem dX1_become_45 : decode cX1_become 45 = .ok (.getfield 30, 3) := by decide +kernel
theorem dX1_become_48 : decode cX1_become 48 = .ok (.aload_n 1, 1) := by decide +kernel
theorem dX1_become_49 : decode cX1_become 49 = .ok (.getfield 30, 3) := by decide +kernel
theorem dX1_become_52 : decode cX1_become 52 = .ok (.invokevirtual 48, 3) := by decide +kernel
theorem dX1_become_55 : decode cX1_become 55 = .ok (.aload_n 0, 1) := by decide +kernel
theorem dX1_become_56 : decode cX1_become 56 = .ok (.getfield 34, 3) := by decide +kernel
theorem dX1_become_59 : decode cX1_become 59 = .ok (.aload_n 1, 1) := by decide +kernel
theorem dX1_become_60 : decode cX1_become 60 = .ok (.getfield 34, 3) := by decide +kernel
theorem dX1_become_63 : decode cX1_become 63 = .ok (.invokevirtual 48, 3) := by decide +kernel
theorem dX1_become_66 : decode cX1_become 66 = .ok (.aload_n 0, 1) := by decide +kernel
theorem dX1_become_67 : decode cX1_become 67 = .ok (.getfield 37, 3) := by decide +kernel
theorem dX1_become_70 : decode cX1_become 70 = .ok (.aload_n 1, 1) := by decide +kernel
theorem dX1_become_71 : decode cX1_become 71 = .ok (.getfield 37, 3) := by decide +kernel
theorem dX1_become_74 : decode cX1_become 74 = .ok (.invokevirtual 48, 3) := by decide +kernel
theorem dX1_become_77 : decode cX1_become 77 = .ok (.aload_n 0, 1) := by decide +kernel
theorem dX1_become_78 : decode cX1_become 78 = .ok (.aload_n 1, 1) := by decide +kernel
theorem dX1_become_79 : decode cX1_become 79 = .ok (.getfield 40, 3) := by decide +kernel
theorem dX1_become_82 : decode cX1_become 82 = .ok (.putfield 40, 3) := by decide +kernel
theorem dX1_become_85 : decode cX1_become 85 = .ok (.aload_n 0, 1) := by decide +kernel
theorem dX1_become_86 : decode cX1_become 86 = .ok (.aload_n 1, 1) := by decide +kernel
theorem dX1_become_87 : decode cX1_become 87 = .ok (.getfield 51, 3) := by decide +kernel
theorem dX1_become_90 : decode cX1_become 90 = .ok (.putfield 51, 3) := by decide +kernel
theorem dX1_become_93 : decode cX1_become 93 = .ok (.aload_n 0, 1) := by decide +kernel
theorem dX1_become_94 : decode cX1_become 94 = .ok (.aload_n 1, 1) := by decide +kernel
theorem dX1_become_95 : decode cX1_become 95 = .ok (.getfield 54, 3) := by decide +kernel
theorem dX1_become_98 : decode cX1_become 98 = .ok (.putfield 54, 3) := by decide +kernel
theorem dX1_become_101 : decode cX1_become 101 = .ok (.aload_n 0, 1) := by decide +kernel
theorem dX1_become_102 : decode cX1_become 102 = .ok (.aload_n 1, 1) := by decide +kernel
theorem dX1_become_103 : decode cX1_become 103 = .ok (.getfield 57, 3) := by decide +kernel
theorem dX1_become_106 : decode cX1_become 106 = .ok (.putfield 57, 3) := by decide +kernel
theorem dX1_become_109 : decode cX1_become 109 = .ok (.aload_n 0, 1) := by decide +kernel
theorem dX1_become_110 : decode cX1_become 110 = .ok (.aload_n 1, 1) := by decide +kernel
theorem dX1_become_111 : decode cX1_become 111 = .ok (.getfield 60, 3) := by decide +kernel
theorem dX1_become_114 : decode cX1_become 114 = .ok (.putfield 60, 3) := by decide +kernel
theorem dX1_become_117 : decode cX1_become 117 = .ok (.aload_n 0, 1) := by decide +kernel
theorem dX1_become_118 : decode cX1_become 118 = .ok (.aload_n 1, 1) := by decide +kernel
theorem dX1_become_119 : decode cX1_become 119 = .ok (.getfield 63, 3) := by decide +kernel
theorem dX1_become_122 : decode cX1_become 122 = .ok (.putfield 63, 3) := by decide +kernel
theorem dX1_become_125 : decode cX1_become 125 = .ok (.return_, 1) := by decide +kernel
theorem dX1_rowOf_0 : decode cX1_rowOf 0 = .ok (.iload_n 1, 1) := by decide +kernel
theorem dX1_rowOf_1 : decode cX1_rowOf 1 = .ok (.ifCond .ne 10, 3) := by decide +kernel
theorem dX1_rowOf_4 : decode cX1_rowOf 4 = .ok (.aload_n 0, 1) := by decide +kernel
theorem dX1_rowOf_5 : decode cX1_rowOf 5 = .ok (.getfield 12, 3) := by decide +kernel
theorem dX1_rowOf_8 : decode cX1_rowOf 8 = .ok (.goto 7, 3) := by decide +kernel
theorem dX1_rowOf_11 : decode cX1_rowOf 11 = .ok (.aload_n 0, 1) := by decide +kernel
theorem dX1_rowOf_12 : decode cX1_rowOf 12 = .ok (.getfield 18, 3) := by decide +kernel
theorem dX1_rowOf_15 : decode cX1_rowOf 15 = .ok (.areturn, 1) := by decide +kernel
theorem dX1_listOf_0 : decode cX1_listOf 0 = .ok (.iload_n 1, 1) := by decide +kernel
theorem dX1_listOf_1 : decode cX1_listOf 1 = .ok (.ifCond .ne 10, 3) := by decide +kernel
theorem dX1_listOf_4 : decode cX1_listOf 4 = .ok (.aload_n 0, 1) := by decide +kernel
theorem dX1_listOf_5 : decode cX1_listOf 5 = .ok (.getfield 21, 3) := by decide +kernel
theorem dX1_listOf_8 : decode cX1_listOf 8 = .ok (.goto 7, 3) := by decide +kernel
theorem dX1_listOf_11 : decode cX1_listOf 11 = .ok (.aload_n 0, 1) := by decide +kernel
theorem dX1_listOf_12 : decode cX1_listOf 12 = .ok (.getfield 24, 3) := by decide +kernel
theorem dX1_listOf_15 : decode cX1_listOf 15 = .ok (.areturn, 1) := by decide +kernel
theorem dX1_hasJar_0 : decode cX1_hasJar 0 = .ok (.aload_n 0, 1) := by decide +kernel
theorem dX1_hasJar_1 : decode cX1_hasJar 1 = .ok (.getfield 12, 3) := by decide +kernel
theorem dX1_hasJar_4 : decode cX1_hasJar 4 = .ok (.iload_n 1, 1) := by decide +kernel
theorem dX1_hasJar_5 : decode cX1_hasJar 5 = .ok (.invokevirtual 66, 3) := by decide +kernel
theorem dX1_hasJar_8 : decode cX1_hasJar 8 = .ok (.ifCond .ne 14, 3) := by decide +kernel
theorem dX1_hasJar_11 : decode cX1_hasJar 11 = .ok (.aload_n 0, 1) := by decide +kernel
theorem dX1_hasJar_12 : decode cX1_hasJar 12 = .ok (.getfield 18, 3) := by decide +kernel
theorem dX1_hasJar_15 : decode cX1_hasJar 15 = .ok (.iload_n 1, 1) := by decide +kernel
theorem dX1_hasJar_16 : decode cX1_hasJar 16 = .ok (.invokevirtual 66, 3) := by decide +kernel
theorem dX1_hasJar_19 : decode cX1_hasJar 19 = .ok (.ifCond .eq 7, 3) := by decide +kernel
theorem dX1_hasJar_22 : decode cX1_hasJar 22 = .ok (.iconst 1, 1) := by decide +kernel
theorem dX1_hasJar_23 : decode cX1_hasJar 23 = .ok (.goto 4, 3) := by decide +kernel
theorem dX1_hasJar_26 : decode cX1_hasJar 26 = .ok (.iconst 0, 1) := by decide +kernel
theorem dX1_hasJar_27 : decode cX1_hasJar 27 = .ok (.ireturn, 1) := by decide +kernel
theorem dX1_jars_0 : decode cX1_jars 0 = .ok (.aload_n 0, 1) := by decide +kernel
theorem dX1_jars_1 : decode cX1_jars 1 = .ok (.getfield 12, 3) := by decide +kernel
theorem dX1_jars_4 : decode cX1_jars 4 = .ok (.getfield 70, 3) := by decide +kernel
theorem dX1_jars_7 : decode cX1_jars 7 = .ok (.aload_n 0, 1) := by decide +kernel
theorem dX1_jars_8 : decode cX1_jars 8 = .ok (.getfield 18, 3) := by decide +kernel
theorem dX1_jars_11 : decode cX1_jars 11 = .ok (.getfield 70, 3) := by decide +kernel
theorem dX1_jars_14 : decode cX1_jars 14 = .ok (.iadd, 1) := by decide +kernel
theorem dX1_jars_15 : decode cX1_jars 15 = .ok (.ireturn, 1) := by decide +kernel
theorem dX1_pinnedJars_0 : decode cX1_pinnedJars 0 = .ok (.aload_n 0, 1) := by decide +kernel
theorem dX1_pinnedJars_1 : decode cX1_pinnedJars 1 = .ok (.aload_n 0, 1) := by decide +kernel
theorem dX1_pinnedJars_2 : decode cX1_pinnedJars 2 = .ok (.getfield 12, 3) := by decide +kernel
theorem dX1_pinnedJars_5 : decode cX1_pinnedJars 5 = .ok (.invokevirtual 73, 3) := by decide +kernel
theorem dX1_pinnedJars_8 : decode cX1_pinnedJars 8 = .ok (.aload_n 0, 1) := by decide +kernel
theorem dX1_pinnedJars_9 : decode cX1_pinnedJars 9 = .ok (.aload_n 0, 1) := by decide +kernel
theorem dX1_pinnedJars_10 : decode cX1_pinnedJars 10 = .ok (.getfield 18, 3) := by decide +kernel
theorem dX1_pinnedJars_13 : decode cX1_pinnedJars 13 = .ok (.invokevirtual 73, 3) := by decide +kernel
theorem dX1_pinnedJars_16 : decode cX1_pinnedJars 16 = .ok (.iadd, 1) := by decide +kernel
theorem dX1_pinnedJars_17 : decode cX1_pinnedJars 17 = .ok (.ireturn, 1) := by decide +kernel
theorem dX1_pinnedOn_0 : decode cX1_pinnedOn 0 = .ok (.iconst 0, 1) := by decide +kernel
theorem dX1_pinnedOn_1 : decode cX1_pinnedOn 1 = .ok (.istore_n 2, 1) := by decide +kernel
theorem dX1_pinnedOn_2 : decode cX1_pinnedOn 2 = .ok (.iconst 0, 1) := by decide +kernel
theorem dX1_pinnedOn_3 : decode cX1_pinnedOn 3 = .ok (.istore_n 3, 1) := by decide +kernel
theorem dX1_pinnedOn_4 : decode cX1_pinnedOn 4 = .ok (.iload_n 3, 1) := by decide +kernel
theorem dX1_pinnedOn_5 : decode cX1_pinnedOn 5 = .ok (.aload_n 1, 1) := by decide +kernel
theorem dX1_pinnedOn_6 : decode cX1_pinnedOn 6 = .ok (.getfield 70, 3) := by decide +kernel
theorem dX1_pinnedOn_9 : decode cX1_pinnedOn 9 = .ok (.if_icmp .ge 27, 3) := by decide +kernel
theorem dX1_pinnedOn_12 : decode cX1_pinnedOn 12 = .ok (.aload_n 0, 1) := by decide +kernel
theorem dX1_pinnedOn_13 : decode cX1_pinnedOn 13 = .ok (.getfield 34, 3) := by decide +kernel
theorem dX1_pinnedOn_16 : decode cX1_pinnedOn 16 = .ok (.aload_n 1, 1) := by decide +kernel
theorem dX1_pinnedOn_17 : decode cX1_pinnedOn 17 = .ok (.iload_n 3, 1) := by decide +kernel
theorem dX1_pinnedOn_18 : decode cX1_pinnedOn 18 = .ok (.invokevirtual 77, 3) := by decide +kernel
theorem dX1_pinnedOn_21 : decode cX1_pinnedOn 21 = .ok (.invokevirtual 81, 3) := by decide +kernel
theorem dX1_pinnedOn_24 : decode cX1_pinnedOn 24 = .ok (.ifCond .le 6, 3) := by decide +kernel
theorem dX1_pinnedOn_27 : decode cX1_pinnedOn 27 = .ok (.iinc 2 1, 3) := by decide +kernel
theorem dX1_pinnedOn_30 : decode cX1_pinnedOn 30 = .ok (.iinc 3 1, 3) := by decide +kernel
theorem dX1_pinnedOn_33 : decode cX1_pinnedOn 33 = .ok (.goto (-29), 3) := by decide +kernel
theorem dX1_pinnedOn_36 : decode cX1_pinnedOn 36 = .ok (.iload_n 2, 1) := by decide +kernel
theorem dX1_pinnedOn_37 : decode cX1_pinnedOn 37 = .ok (.ireturn, 1) := by decide +kernel
theorem dX1_forecast_0 : decode cX1_forecast 0 = .ok (.aload_n 0, 1) := by decide +kernel
theorem dX1_forecast_1 : decode cX1_forecast 1 = .ok (.iload_n 1, 1) := by decide +kernel
theorem dX1_forecast_2 : decode cX1_forecast 2 = .ok (.invokevirtual 84, 3) := by decide +kernel
theorem dX1_forecast_5 : decode cX1_forecast 5 = .ok (.ifCond .eq 5, 3) := by decide +kernel
theorem dX1_forecast_8 : decode cX1_forecast 8 = .ok (.iconst 0, 1) := by decide +kernel
theorem dX1_forecast_9 : decode cX1_forecast 9 = .ok (.ireturn, 1) := by decide +kernel
theorem dX1_forecast_10 : decode cX1_forecast 10 = .ok (.aload_n 0, 1) := by decide +kernel
theorem dX1_forecast_11 : decode cX1_forecast 11 = .ok (.invokevirtual 87, 3) := by decide +kernel
theorem dX1_forecast_14 : decode cX1_forecast 14 = .ok (.aload_n 0, 1) := by decide +kernel
theorem dX1_forecast_15 : decode cX1_forecast 15 = .ok (.getfield 40, 3) := by decide +kernel
theorem dX1_forecast_18 : decode cX1_forecast 18 = .ok (.if_icmp .lt 17, 3) := by decide +kernel
theorem dX1_forecast_21 : decode cX1_forecast 21 = .ok (.aload_n 0, 1) := by decide +kernel
theorem dX1_forecast_22 : decode cX1_forecast 22 = .ok (.invokevirtual 91, 3) := by decide +kernel
theorem dX1_forecast_25 : decode cX1_forecast 25 = .ok (.aload_n 0, 1) := by decide +kernel
theorem dX1_forecast_26 : decode cX1_forecast 26 = .ok (.invokevirtual 87, 3) := by decide +kernel
theorem dX1_forecast_29 : decode cX1_forecast 29 = .ok (.if_icmp .lt 6, 3) := by decide +kernel
theorem dX1_forecast_32 : decode cX1_forecast 32 = .ok (.bipush (-9), 2) := by decide +kernel
theorem dX1_forecast_34 : decode cX1_forecast 34 = .ok (.ireturn, 1) := by decide +kernel
theorem dX1_forecast_35 : decode cX1_forecast 35 = .ok (.aload_n 0, 1) := by decide +kernel
theorem dX1_forecast_36 : decode cX1_forecast 36 = .ok (.getfield 21, 3) := by decide +kernel
theorem dX1_forecast_39 : decode cX1_forecast 39 = .ok (.iload_n 1, 1) := by decide +kernel
theorem dX1_forecast_40 : decode cX1_forecast 40 = .ok (.invokevirtual 66, 3) := by decide +kernel
theorem dX1_forecast_43 : decode cX1_forecast 43 = .ok (.ifCond .eq 5, 3) := by decide +kernel
theorem dX1_forecast_46 : decode cX1_forecast 46 = .ok (.iconst 2, 1) := by decide +kernel
theorem dX1_forecast_47 : decode cX1_forecast 47 = .ok (.ireturn, 1) := by decide +kernel
theorem dX1_forecast_48 : decode cX1_forecast 48 = .ok (.aload_n 0, 1) := by decide +kernel
theorem dX1_forecast_49 : decode cX1_forecast 49 = .ok (.getfield 24, 3) := by decide +kernel
theorem dX1_forecast_52 : decode cX1_forecast 52 = .ok (.iload_n 1, 1) := by decide +kernel
theorem dX1_forecast_53 : decode cX1_forecast 53 = .ok (.invokevirtual 66, 3) := by decide +kernel
theorem dX1_forecast_56 : decode cX1_forecast 56 = .ok (.ifCond .eq 7, 3) := by decide +kernel
theorem dX1_forecast_59 : decode cX1_forecast 59 = .ok (.iconst 3, 1) := by decide +kernel
theorem dX1_forecast_60 : decode cX1_forecast 60 = .ok (.goto 4, 3) := by decide +kernel
theorem dX1_forecast_63 : decode cX1_forecast 63 = .ok (.iconst 1, 1) := by decide +kernel
theorem dX1_forecast_64 : decode cX1_forecast 64 = .ok (.ireturn, 1) := by decide +kernel
theorem dX1_bring_0 : decode cX1_bring 0 = .ok (.aload_n 0, 1) := by decide +kernel
theorem dX1_bring_1 : decode cX1_bring 1 = .ok (.iload_n 1, 1) := by decide +kernel
theorem dX1_bring_2 : decode cX1_bring 2 = .ok (.invokevirtual 94, 3) := by decide +kernel
theorem dX1_bring_5 : decode cX1_bring 5 = .ok (.istore_n 2, 1) := by decide +kernel
theorem dX1_bring_6 : decode cX1_bring 6 = .ok (.iload_n 2, 1) := by decide +kernel
theorem dX1_bring_7 : decode cX1_bring 7 = .ok (.bipush (-9), 2) := by decide +kernel
theorem dX1_bring_9 : decode cX1_bring 9 = .ok (.if_icmp .ne 5, 3) := by decide +kernel
theorem dX1_bring_12 : decode cX1_bring 12 = .ok (.iload_n 2, 1) := by decide +kernel
theorem dX1_bring_13 : decode cX1_bring 13 = .ok (.ireturn, 1) := by decide +kernel
theorem dX1_bring_14 : decode cX1_bring 14 = .ok (.iload_n 2, 1) := by decide +kernel
theorem dX1_bring_15 : decode cX1_bring 15 = .ok (.ifCond .ne 42, 3) := by decide +kernel
theorem dX1_bring_18 : decode cX1_bring 18 = .ok (.aload_n 0, 1) := by decide +kernel
theorem dX1_bring_19 : decode cX1_bring 19 = .ok (.dup, 1) := by decide +kernel
theorem dX1_bring_20 : decode cX1_bring 20 = .ok (.getfield 54, 3) := by decide +kernel
theorem dX1_bring_23 : decode cX1_bring 23 = .ok (.iconst 1, 1) := by decide +kernel
theorem dX1_bring_24 : decode cX1_bring 24 = .ok (.iadd, 1) := by decide +kernel
theorem dX1_bring_25 : decode cX1_bring 25 = .ok (.putfield 54, 3) := by decide +kernel
theorem dX1_bring_28 : decode cX1_bring 28 = .ok (.aload_n 0, 1) := by decide +kernel
theorem dX1_bring_29 : decode cX1_bring 29 = .ok (.getfield 30, 3) := by decide +kernel
theorem dX1_bring_32 : decode cX1_bring 32 = .ok (.iload_n 1, 1) := by decide +kernel
theorem dX1_bring_33 : decode cX1_bring 33 = .ok (.iconst 1, 1) := by decide +kernel
theorem dX1_bring_34 : decode cX1_bring 34 = .ok (.invokevirtual 97, 3) := by decide +kernel
theorem dX1_bring_37 : decode cX1_bring 37 = .ok (.aload_n 0, 1) := by decide +kernel
theorem dX1_bring_38 : decode cX1_bring 38 = .ok (.getfield 37, 3) := by decide +kernel
theorem dX1_bring_41 : decode cX1_bring 41 = .ok (.iload_n 1, 1) := by decide +kernel
theorem dX1_bring_42 : decode cX1_bring 42 = .ok (.aload_n 0, 1) := by decide +kernel
theorem dX1_bring_43 : decode cX1_bring 43 = .ok (.getfield 37, 3) := by decide +kernel
theorem dX1_bring_46 : decode cX1_bring 46 = .ok (.iload_n 1, 1) := by decide +kernel
theorem dX1_bring_47 : decode cX1_bring 47 = .ok (.invokevirtual 81, 3) := by decide +kernel
theorem dX1_bring_50 : decode cX1_bring 50 = .ok (.iconst 1, 1) := by decide +kernel
theorem dX1_bring_51 : decode cX1_bring 51 = .ok (.iadd, 1) := by decide +kernel
theorem dX1_bring_52 : decode cX1_bring 52 = .ok (.invokevirtual 97, 3) := by decide +kernel
theorem dX1_bring_55 : decode cX1_bring 55 = .ok (.iload_n 2, 1) := by decide +kernel
theorem dX1_bring_56 : decode cX1_bring 56 = .ok (.ireturn, 1) := by decide +kernel
theorem dX1_bring_57 : decode cX1_bring 57 = .ok (.aload_n 0, 1) := by decide +kernel
theorem dX1_bring_58 : decode cX1_bring 58 = .ok (.dup, 1) := by decide +kernel
theorem dX1_bring_59 : decode cX1_bring 59 = .ok (.getfield 57, 3) := by decide +kernel
theorem dX1_bring_62 : decode cX1_bring 62 = .ok (.iconst 1, 1) := by decide +kernel
theorem dX1_bring_63 : decode cX1_bring 63 = .ok (.iadd, 1) := by decide +kernel
theorem dX1_bring_64 : decode cX1_bring 64 = .ok (.putfield 57, 3) := by decide +kernel
theorem dX1_bring_67 : decode cX1_bring 67 = .ok (.aload_n 0, 1) := by decide +kernel
theorem dX1_bring_68 : decode cX1_bring 68 = .ok (.iload_n 1, 1) := by decide +kernel
theorem dX1_bring_69 : decode cX1_bring 69 = .ok (.iload_n 2, 1) := by decide +kernel
theorem dX1_bring_70 : decode cX1_bring 70 = .ok (.invokevirtual 101, 3) := by decide +kernel
theorem dX1_bring_73 : decode cX1_bring 73 = .ok (.aload_n 0, 1) := by decide +kernel
theorem dX1_bring_74 : decode cX1_bring 74 = .ok (.invokevirtual 87, 3) := by decide +kernel
theorem dX1_bring_77 : decode cX1_bring 77 = .ok (.aload_n 0, 1) := by decide +kernel
theorem dX1_bring_78 : decode cX1_bring 78 = .ok (.getfield 40, 3) := by decide +kernel
theorem dX1_bring_81 : decode cX1_bring 81 = .ok (.if_icmp .lt 8, 3) := by decide +kernel
theorem dX1_bring_84 : decode cX1_bring 84 = .ok (.aload_n 0, 1) := by decide +kernel
theorem dX1_bring_85 : decode cX1_bring 85 = .ok (.invokevirtual 104, 3) := by decide +kernel
theorem dX1_bring_88 : decode cX1_bring 88 = .ok (.pop, 1) := by decide +kernel
theorem dX1_bring_89 : decode cX1_bring 89 = .ok (.aload_n 0, 1) := by decide +kernel
theorem dX1_bring_90 : decode cX1_bring 90 = .ok (.iload_n 1, 1) := by decide +kernel
theorem dX1_bring_91 : decode cX1_bring 91 = .ok (.iload_n 2, 1) := by decide +kernel
theorem dX1_bring_92 : decode cX1_bring 92 = .ok (.iconst 1, 1) := by decide +kernel
theorem dX1_bring_93 : decode cX1_bring 93 = .ok (.if_icmp .ne 10, 3) := by decide +kernel
theorem dX1_bring_96 : decode cX1_bring 96 = .ok (.aload_n 0, 1) := by decide +kernel
theorem dX1_bring_97 : decode cX1_bring 97 = .ok (.getfield 12, 3) := by decide +kernel
theorem dX1_bring_100 : decode cX1_bring 100 = .ok (.goto 7, 3) := by decide +kernel
theorem dX1_bring_103 : decode cX1_bring 103 = .ok (.aload_n 0, 1) := by decide +kernel
theorem dX1_bring_104 : decode cX1_bring 104 = .ok (.getfield 18, 3) := by decide +kernel
theorem dX1_bring_107 : decode cX1_bring 107 = .ok (.invokevirtual 107, 3) := by decide +kernel
theorem dX1_bring_110 : decode cX1_bring 110 = .ok (.iload_n 2, 1) := by decide +kernel
theorem dX1_bring_111 : decode cX1_bring 111 = .ok (.ireturn, 1) := by decide +kernel
theorem dX1_bringSeries_0 : decode cX1_bringSeries 0 = .ok (.aload_n 0, 1) := by decide +kernel
theorem dX1_bringSeries_1 : decode cX1_bringSeries 1 = .ok (.getfield 54, 3) := by decide +kernel
theorem dX1_bringSeries_4 : decode cX1_bringSeries 4 = .ok (.istore 4, 2) := by decide +kernel
theorem dX1_bringSeries_6 : decode cX1_bringSeries 6 = .ok (.iconst 0, 1) := by decide +kernel
theorem dX1_bringSeries_7 : decode cX1_bringSeries 7 = .ok (.istore 5, 2) := by decide +kernel
theorem dX1_bringSeries_9 : decode cX1_bringSeries 9 = .ok (.iload 5, 2) := by decide +kernel
theorem dX1_bringSeries_11 : decode cX1_bringSeries 11 = .ok (.iload_n 3, 1) := by decide +kernel
theorem dX1_bringSeries_12 : decode cX1_bringSeries 12 = .ok (.if_icmp .ge 23, 3) := by decide +kernel
theorem dX1_bringSeries_15 : decode cX1_bringSeries 15 = .ok (.aload_n 0, 1) := by decide +kernel
theorem dX1_bringSeries_16 : decode cX1_bringSeries 16 = .ok (.iload_n 1, 1) := by decide +kernel
theorem dX1_bringSeries_17 : decode cX1_bringSeries 17 = .ok (.iload 5, 2) := by decide +kernel
theorem dX1_bringSeries_19 : decode cX1_bringSeries 19 = .ok (.iload_n 2, 1) := by decide +kernel
theorem dX1_bringSeries_20 : decode cX1_bringSeries 20 = .ok (.imul, 1) := by decide +kernel
theorem dX1_bringSeries_21 : decode cX1_bringSeries 21 = .ok (.iadd, 1) := by decide +kernel
theorem dX1_bringSeries_22 : decode cX1_bringSeries 22 = .ok (.bipush 40, 2) := by decide +kernel
theorem dX1_bringSeries_24 : decode cX1_bringSeries 24 = .ok (.irem, 1) := by decide +kernel
theorem dX1_bringSeries_25 : decode cX1_bringSeries 25 = .ok (.invokevirtual 111, 3) := by decide +kernel
theorem dX1_bringSeries_28 : decode cX1_bringSeries 28 = .ok (.pop, 1) := by decide +kernel
theorem dX1_bringSeries_29 : decode cX1_bringSeries 29 = .ok (.iinc 5 1, 3) := by decide +kernel
theorem dX1_bringSeries_32 : decode cX1_bringSeries 32 = .ok (.goto (-23), 3) := by decide +kernel
theorem dX1_bringSeries_35 : decode cX1_bringSeries 35 = .ok (.aload_n 0, 1) := by decide +kernel
theorem dX1_bringSeries_36 : decode cX1_bringSeries 36 = .ok (.getfield 54, 3) := by decide +kernel
theorem dX1_bringSeries_39 : decode cX1_bringSeries 39 = .ok (.iload 4, 2) := by decide +kernel
theorem dX1_bringSeries_41 : decode cX1_bringSeries 41 = .ok (.isub, 1) := by decide +kernel
theorem dX1_bringSeries_42 : decode cX1_bringSeries 42 = .ok (.ireturn, 1) := by decide +kernel
theorem dX1_recall_0 : decode cX1_recall 0 = .ok (.iload_n 2, 1) := by decide +kernel
theorem dX1_recall_1 : decode cX1_recall 1 = .ok (.iconst 2, 1) := by decide +kernel
theorem dX1_recall_2 : decode cX1_recall 2 = .ok (.if_icmp .ne 58, 3) := by decide +kernel
theorem dX1_recall_5 : decode cX1_recall 5 = .ok (.aload_n 0, 1) := by decide +kernel
theorem dX1_recall_6 : decode cX1_recall 6 = .ok (.aload_n 0, 1) := by decide +kernel
theorem dX1_recall_7 : decode cX1_recall 7 = .ok (.getfield 40, 3) := by decide +kernel
theorem dX1_recall_10 : decode cX1_recall 10 = .ok (.aload_n 0, 1) := by decide +kernel
theorem dX1_recall_11 : decode cX1_recall 11 = .ok (.getfield 51, 3) := by decide +kernel
theorem dX1_recall_14 : decode cX1_recall 14 = .ok (.aload_n 0, 1) := by decide +kernel
theorem dX1_recall_15 : decode cX1_recall 15 = .ok (.getfield 24, 3) := by decide +kernel
theorem dX1_recall_18 : decode cX1_recall 18 = .ok (.aload_n 0, 1) := by decide +kernel
theorem dX1_recall_19 : decode cX1_recall 19 = .ok (.getfield 21, 3) := by decide +kernel
theorem dX1_recall_22 : decode cX1_recall 22 = .ok (.invokestatic 114, 3) := by decide +kernel
theorem dX1_recall_25 : decode cX1_recall 25 = .ok (.iadd, 1) := by decide +kernel
theorem dX1_recall_26 : decode cX1_recall 26 = .ok (.invokestatic 118, 3) := by decide +kernel
theorem dX1_recall_29 : decode cX1_recall 29 = .ok (.putfield 51, 3) := by decide +kernel
theorem dX1_recall_32 : decode cX1_recall 32 = .ok (.aload_n 0, 1) := by decide +kernel
theorem dX1_recall_33 : decode cX1_recall 33 = .ok (.getfield 21, 3) := by decide +kernel
theorem dX1_recall_36 : decode cX1_recall 36 = .ok (.aload_n 0, 1) := by decide +kernel
theorem dX1_recall_37 : decode cX1_recall 37 = .ok (.getfield 21, 3) := by decide +kernel
theorem dX1_recall_40 : decode cX1_recall 40 = .ok (.iload_n 1, 1) := by decide +kernel
theorem dX1_recall_41 : decode cX1_recall 41 = .ok (.invokevirtual 124, 3) := by decide +kernel
theorem dX1_recall_44 : decode cX1_recall 44 = .ok (.invokevirtual 127, 3) := by decide +kernel
theorem dX1_recall_47 : decode cX1_recall 47 = .ok (.aload_n 0, 1) := by decide +kernel
theorem dX1_recall_48 : decode cX1_recall 48 = .ok (.dup, 1) := by decide +kernel
theorem dX1_recall_49 : decode cX1_recall 49 = .ok (.getfield 60, 3) := by decide +kernel
theorem dX1_recall_52 : decode cX1_recall 52 = .ok (.iconst 1, 1) := by decide +kernel
theorem dX1_recall_53 : decode cX1_recall 53 = .ok (.iadd, 1) := by decide +kernel
theorem dX1_recall_54 : decode cX1_recall 54 = .ok (.putfield 60, 3) := by decide +kernel
theorem dX1_recall_57 : decode cX1_recall 57 = .ok (.goto 57, 3) := by decide +kernel
theorem dX1_recall_60 : decode cX1_recall 60 = .ok (.iload_n 2, 1) := by decide +kernel
theorem dX1_recall_61 : decode cX1_recall 61 = .ok (.iconst 3, 1) := by decide +kernel
theorem dX1_recall_62 : decode cX1_recall 62 = .ok (.if_icmp .ne 52, 3) := by decide +kernel
theorem dX1_recall_65 : decode cX1_recall 65 = .ok (.aload_n 0, 1) := by decide +kernel
theorem dX1_recall_66 : decode cX1_recall 66 = .ok (.iconst 0, 1) := by decide +kernel
theorem dX1_recall_67 : decode cX1_recall 67 = .ok (.aload_n 0, 1) := by decide +kernel
theorem dX1_recall_68 : decode cX1_recall 68 = .ok (.getfield 51, 3) := by decide +kernel
theorem dX1_recall_71 : decode cX1_recall 71 = .ok (.aload_n 0, 1) := by decide +kernel
theorem dX1_recall_72 : decode cX1_recall 72 = .ok (.getfield 21, 3) := by decide +kernel
theorem dX1_recall_75 : decode cX1_recall 75 = .ok (.aload_n 0, 1) := by decide +kernel
theorem dX1_recall_76 : decode cX1_recall 76 = .ok (.getfield 24, 3) := by decide +kernel
theorem dX1_recall_79 : decode cX1_recall 79 = .ok (.invokestatic 114, 3) := by decide +kernel
theorem dX1_recall_82 : decode cX1_recall 82 = .ok (.isub, 1) := by decide +kernel
theorem dX1_recall_83 : decode cX1_recall 83 = .ok (.invokestatic 131, 3) := by decide +kernel
theorem dX1_recall_86 : decode cX1_recall 86 = .ok (.putfield 51, 3) := by decide +kernel
theorem dX1_recall_89 : decode cX1_recall 89 = .ok (.aload_n 0, 1) := by decide +kernel
theorem dX1_recall_90 : decode cX1_recall 90 = .ok (.getfield 24, 3) := by decide +kernel
theorem dX1_recall_93 : decode cX1_recall 93 = .ok (.aload_n 0, 1) := by decide +kernel
theorem dX1_recall_94 : decode cX1_recall 94 = .ok (.getfield 24, 3) := by decide +kernel
theorem dX1_recall_97 : decode cX1_recall 97 = .ok (.iload_n 1, 1) := by decide +kernel
theorem dX1_recall_98 : decode cX1_recall 98 = .ok (.invokevirtual 124, 3) := by decide +kernel
theorem dX1_recall_101 : decode cX1_recall 101 = .ok (.invokevirtual 127, 3) := by decide +kernel
theorem dX1_recall_104 : decode cX1_recall 104 = .ok (.aload_n 0, 1) := by decide +kernel
theorem dX1_recall_105 : decode cX1_recall 105 = .ok (.dup, 1) := by decide +kernel
theorem dX1_recall_106 : decode cX1_recall 106 = .ok (.getfield 60, 3) := by decide +kernel
theorem dX1_recall_109 : decode cX1_recall 109 = .ok (.iconst 1, 1) := by decide +kernel
theorem dX1_recall_110 : decode cX1_recall 110 = .ok (.iadd, 1) := by decide +kernel
theorem dX1_recall_111 : decode cX1_recall 111 = .ok (.putfield 60, 3) := by decide +kernel
theorem dX1_recall_114 : decode cX1_recall 114 = .ok (.return_, 1) := by decide +kernel
theorem dX1_turn_0 : decode cX1_turn 0 = .ok (.aload_n 1, 1) := by decide +kernel
theorem dX1_turn_1 : decode cX1_turn 1 = .ok (.getfield 70, 3) := by decide +kernel
theorem dX1_turn_4 : decode cX1_turn 4 = .ok (.istore_n 2, 1) := by decide +kernel
theorem dX1_turn_5 : decode cX1_turn 5 = .ok (.iload_n 2, 1) := by decide +kernel
theorem dX1_turn_6 : decode cX1_turn 6 = .ok (.iconst 1, 1) := by decide +kernel
theorem dX1_turn_7 : decode cX1_turn 7 = .ok (.if_icmp .ge 7, 3) := by decide +kernel
theorem dX1_turn_10 : decode cX1_turn 10 = .ok (.iconst 1, 1) := by decide +kernel
theorem dX1_turn_11 : decode cX1_turn 11 = .ok (.goto 13, 3) := by decide +kernel
theorem dX1_turn_14 : decode cX1_turn 14 = .ok (.iconst 1, 1) := by decide +kernel
theorem dX1_turn_15 : decode cX1_turn 15 = .ok (.aload_n 0, 1) := by decide +kernel
theorem dX1_turn_16 : decode cX1_turn 16 = .ok (.getfield 70, 3) := by decide +kernel
theorem dX1_turn_19 : decode cX1_turn 19 = .ok (.iload_n 2, 1) := by decide +kernel
theorem dX1_turn_20 : decode cX1_turn 20 = .ok (.idiv, 1) := by decide +kernel
theorem dX1_turn_21 : decode cX1_turn 21 = .ok (.invokestatic 131, 3) := by decide +kernel
theorem dX1_turn_24 : decode cX1_turn 24 = .ok (.ireturn, 1) := by decide +kernel
theorem dX1_placeNewJar_0 : decode cX1_placeNewJar 0 = .ok (.aload_n 2, 1) := by decide +kernel
theorem dX1_placeNewJar_1 : decode cX1_placeNewJar 1 = .ok (.iload_n 1, 1) := by decide +kernel
theorem dX1_placeNewJar_2 : decode cX1_placeNewJar 2 = .ok (.invokevirtual 134, 3) := by decide +kernel
theorem dX1_placeNewJar_5 : decode cX1_placeNewJar 5 = .ok (.aload_n 0, 1) := by decide +kernel
theorem dX1_placeNewJar_6 : decode cX1_placeNewJar 6 = .ok (.getfield 30, 3) := by decide +kernel
theorem dX1_placeNewJar_9 : decode cX1_placeNewJar 9 = .ok (.iload_n 1, 1) := by decide +kernel
theorem dX1_placeNewJar_10 : decode cX1_placeNewJar 10 = .ok (.iconst 0, 1) := by decide +kernel
theorem dX1_placeNewJar_11 : decode cX1_placeNewJar 11 = .ok (.invokevirtual 97, 3) := by decide +kernel
theorem dX1_placeNewJar_14 : decode cX1_placeNewJar 14 = .ok (.aload_n 0, 1) := by decide +kernel
theorem dX1_placeNewJar_15 : decode cX1_placeNewJar 15 = .ok (.getfield 34, 3) := by decide +kernel
theorem dX1_placeNewJar_18 : decode cX1_placeNewJar 18 = .ok (.iload_n 1, 1) := by decide +kernel
theorem dX1_placeNewJar_19 : decode cX1_placeNewJar 19 = .ok (.iconst 0, 1) := by decide +kernel
theorem dX1_placeNewJar_20 : decode cX1_placeNewJar 20 = .ok (.invokevirtual 97, 3) := by decide +kernel
theorem dX1_placeNewJar_23 : decode cX1_placeNewJar 23 = .ok (.aload_n 0, 1) := by decide +kernel
theorem dX1_placeNewJar_24 : decode cX1_placeNewJar 24 = .ok (.getfield 37, 3) := by decide +kernel
theorem dX1_placeNewJar_27 : decode cX1_placeNewJar 27 = .ok (.iload_n 1, 1) := by decide +kernel
theorem dX1_placeNewJar_28 : decode cX1_placeNewJar 28 = .ok (.iconst 1, 1) := by decide +kernel
theorem dX1_placeNewJar_29 : decode cX1_placeNewJar 29 = .ok (.invokevirtual 97, 3) := by decide +kernel
theorem dX1_placeNewJar_32 : decode cX1_placeNewJar 32 = .ok (.return_, 1) := by decide +kernel
theorem dX1_sweep_0 : decode cX1_sweep 0 = .ok (.aload_n 0, 1) := by decide +kernel
theorem dX1_sweep_1 : decode cX1_sweep 1 = .ok (.invokevirtual 91, 3) := by decide +kernel
theorem dX1_sweep_4 : decode cX1_sweep 4 = .ok (.aload_n 0, 1) := by decide +kernel
theorem dX1_sweep_5 : decode cX1_sweep 5 = .ok (.invokevirtual 87, 3) := by decide +kernel
theorem dX1_sweep_8 : decode cX1_sweep 8 = .ok (.if_icmp .lt 5, 3) := by decide +kernel
theorem dX1_sweep_11 : decode cX1_sweep 11 = .ok (.iconst (-1), 1) := by decide +kernel
theorem dX1_sweep_12 : decode cX1_sweep 12 = .ok (.ireturn, 1) := by decide +kernel
theorem dX1_sweep_13 : decode cX1_sweep 13 = .ok (.iconst 0, 1) := by decide +kernel
theorem dX1_sweep_14 : decode cX1_sweep 14 = .ok (.istore_n 1, 1) := by decide +kernel
theorem dX1_sweep_15 : decode cX1_sweep 15 = .ok (.iload_n 1, 1) := by decide +kernel
theorem dX1_sweep_16 : decode cX1_sweep 16 = .ok (.ldc 137, 2) := by decide +kernel
theorem dX1_sweep_18 : decode cX1_sweep 18 = .ok (.if_icmp .ge 122, 3) := by decide +kernel
theorem dX1_sweep_21 : decode cX1_sweep 21 = .ok (.aload_n 0, 1) := by decide +kernel
theorem dX1_sweep_22 : decode cX1_sweep 22 = .ok (.invokevirtual 138, 3) := by decide +kernel
theorem dX1_sweep_25 : decode cX1_sweep 25 = .ok (.istore_n 2, 1) := by decide +kernel
theorem dX1_sweep_26 : decode cX1_sweep 26 = .ok (.aload_n 0, 1) := by decide +kernel
theorem dX1_sweep_27 : decode cX1_sweep 27 = .ok (.iload_n 2, 1) := by decide +kernel
theorem dX1_sweep_28 : decode cX1_sweep 28 = .ok (.invokevirtual 141, 3) := by decide +kernel
theorem dX1_sweep_31 : decode cX1_sweep 31 = .ok (.astore_n 3, 1) := by decide +kernel
theorem dX1_sweep_32 : decode cX1_sweep 32 = .ok (.aload_n 3, 1) := by decide +kernel
theorem dX1_sweep_33 : decode cX1_sweep 33 = .ok (.iconst 0, 1) := by decide +kernel
theorem dX1_sweep_34 : decode cX1_sweep 34 = .ok (.invokevirtual 77, 3) := by decide +kernel
theorem dX1_sweep_37 : decode cX1_sweep 37 = .ok (.istore 4, 2) := by decide +kernel
theorem dX1_sweep_39 : decode cX1_sweep 39 = .ok (.aload_n 3, 1) := by decide +kernel
theorem dX1_sweep_40 : decode cX1_sweep 40 = .ok (.iconst 0, 1) := by decide +kernel
theorem dX1_sweep_41 : decode cX1_sweep 41 = .ok (.invokevirtual 127, 3) := by decide +kernel
theorem dX1_sweep_44 : decode cX1_sweep 44 = .ok (.aload_n 0, 1) := by decide +kernel
theorem dX1_sweep_45 : decode cX1_sweep 45 = .ok (.dup, 1) := by decide +kernel
theorem dX1_sweep_46 : decode cX1_sweep 46 = .ok (.getfield 63, 3) := by decide +kernel
theorem dX1_sweep_49 : decode cX1_sweep 49 = .ok (.iconst 1, 1) := by decide +kernel
theorem dX1_sweep_50 : decode cX1_sweep 50 = .ok (.iadd, 1) := by decide +kernel
theorem dX1_sweep_51 : decode cX1_sweep 51 = .ok (.putfield 63, 3) := by decide +kernel
theorem dX1_sweep_54 : decode cX1_sweep 54 = .ok (.aload_n 0, 1) := by decide +kernel
theorem dX1_sweep_55 : decode cX1_sweep 55 = .ok (.getfield 34, 3) := by decide +kernel
theorem dX1_sweep_58 : decode cX1_sweep 58 = .ok (.iload 4, 2) := by decide +kernel
theorem dX1_sweep_60 : decode cX1_sweep 60 = .ok (.invokevirtual 81, 3) := by decide +kernel
theorem dX1_sweep_63 : decode cX1_sweep 63 = .ok (.ifCond .le 12, 3) := by decide +kernel
theorem dX1_sweep_66 : decode cX1_sweep 66 = .ok (.aload_n 3, 1) := by decide +kernel
theorem dX1_sweep_67 : decode cX1_sweep 67 = .ok (.iload 4, 2) := by decide +kernel
theorem dX1_sweep_69 : decode cX1_sweep 69 = .ok (.invokevirtual 134, 3) := by decide +kernel
theorem dX1_sweep_72 : decode cX1_sweep 72 = .ok (.goto 62, 3) := by decide +kernel
theorem dX1_sweep_75 : decode cX1_sweep 75 = .ok (.aload_n 0, 1) := by decide +kernel
theorem dX1_sweep_76 : decode cX1_sweep 76 = .ok (.getfield 30, 3) := by decide +kernel
theorem dX1_sweep_79 : decode cX1_sweep 79 = .ok (.iload 4, 2) := by decide +kernel
theorem dX1_sweep_81 : decode cX1_sweep 81 = .ok (.invokevirtual 81, 3) := by decide +kernel
theorem dX1_sweep_84 : decode cX1_sweep 84 = .ok (.ifCond .le 25, 3) := by decide +kernel
theorem dX1_sweep_87 : decode cX1_sweep 87 = .ok (.aload_n 0, 1) := by decide +kernel
theorem dX1_sweep_88 : decode cX1_sweep 88 = .ok (.getfield 30, 3) := by decide +kernel
theorem dX1_sweep_91 : decode cX1_sweep 91 = .ok (.iload 4, 2) := by decide +kernel
theorem dX1_sweep_93 : decode cX1_sweep 93 = .ok (.iconst 0, 1) := by decide +kernel
theorem dX1_sweep_94 : decode cX1_sweep 94 = .ok (.invokevirtual 97, 3) := by decide +kernel
theorem dX1_sweep_97 : decode cX1_sweep 97 = .ok (.aload_n 0, 1) := by decide +kernel
theorem dX1_sweep_98 : decode cX1_sweep 98 = .ok (.getfield 18, 3) := by decide +kernel
theorem dX1_sweep_101 : decode cX1_sweep 101 = .ok (.iload 4, 2) := by decide +kernel
theorem dX1_sweep_103 : decode cX1_sweep 103 = .ok (.invokevirtual 134, 3) := by decide +kernel
theorem dX1_sweep_106 : decode cX1_sweep 106 = .ok (.goto 28, 3) := by decide +kernel
theorem dX1_sweep_109 : decode cX1_sweep 109 = .ok (.aload_n 0, 1) := by decide +kernel
theorem dX1_sweep_110 : decode cX1_sweep 110 = .ok (.iload_n 2, 1) := by decide +kernel
theorem dX1_sweep_111 : decode cX1_sweep 111 = .ok (.invokevirtual 145, 3) := by decide +kernel
theorem dX1_sweep_114 : decode cX1_sweep 114 = .ok (.iload 4, 2) := by decide +kernel
theorem dX1_sweep_116 : decode cX1_sweep 116 = .ok (.invokevirtual 134, 3) := by decide +kernel
theorem dX1_sweep_119 : decode cX1_sweep 119 = .ok (.aload_n 0, 1) := by decide +kernel
theorem dX1_sweep_120 : decode cX1_sweep 120 = .ok (.iload_n 2, 1) := by decide +kernel
theorem dX1_sweep_121 : decode cX1_sweep 121 = .ok (.invokevirtual 145, 3) := by decide +kernel
theorem dX1_sweep_124 : decode cX1_sweep 124 = .ok (.aload_n 0, 1) := by decide +kernel
theorem dX1_sweep_125 : decode cX1_sweep 125 = .ok (.getfield 40, 3) := by decide +kernel
theorem dX1_sweep_128 : decode cX1_sweep 128 = .ok (.invokevirtual 148, 3) := by decide +kernel
theorem dX1_sweep_131 : decode cX1_sweep 131 = .ok (.iload 4, 2) := by decide +kernel
theorem dX1_sweep_133 : decode cX1_sweep 133 = .ok (.ireturn, 1) := by decide +kernel
theorem dX1_sweep_134 : decode cX1_sweep 134 = .ok (.iinc 1 1, 3) := by decide +kernel
theorem dX1_sweep_137 : decode cX1_sweep 137 = .ok (.goto (-122), 3) := by decide +kernel
theorem dX1_sweep_140 : decode cX1_sweep 140 = .ok (.iconst (-1), 1) := by decide +kernel
theorem dX1_sweep_141 : decode cX1_sweep 141 = .ok (.ireturn, 1) := by decide +kernel
theorem dX1_givingShelf_0 : decode cX1_givingShelf 0 = .ok (.aload_n 0, 1) := by decide +kernel
theorem dX1_givingShelf_1 : decode cX1_givingShelf 1 = .ok (.aload_n 0, 1) := by decide +kernel
theorem dX1_givingShelf_2 : decode cX1_givingShelf 2 = .ok (.getfield 12, 3) := by decide +kernel
theorem dX1_givingShelf_5 : decode cX1_givingShelf 5 = .ok (.invokevirtual 73, 3) := by decide +kernel
theorem dX1_givingShelf_8 : decode cX1_givingShelf 8 = .ok (.aload_n 0, 1) := by decide +kernel
theorem dX1_givingShelf_9 : decode cX1_givingShelf 9 = .ok (.getfield 12, 3) := by decide +kernel
theorem dX1_givingShelf_12 : decode cX1_givingShelf 12 = .ok (.getfield 70, 3) := by decide +kernel
theorem dX1_givingShelf_15 : decode cX1_givingShelf 15 = .ok (.if_icmp .ge 7, 3) := by decide +kernel
theorem dX1_givingShelf_18 : decode cX1_givingShelf 18 = .ok (.iconst 1, 1) := by decide +kernel
theorem dX1_givingShelf_19 : decode cX1_givingShelf 19 = .ok (.goto 4, 3) := by decide +kernel
theorem dX1_givingShelf_22 : decode cX1_givingShelf 22 = .ok (.iconst 0, 1) := by decide +kernel
theorem dX1_givingShelf_23 : decode cX1_givingShelf 23 = .ok (.istore_n 1, 1) := by decide +kernel
theorem dX1_givingShelf_24 : decode cX1_givingShelf 24 = .ok (.aload_n 0, 1) := by decide +kernel
theorem dX1_givingShelf_25 : decode cX1_givingShelf 25 = .ok (.getfield 12, 3) := by decide +kernel
theorem dX1_givingShelf_28 : decode cX1_givingShelf 28 = .ok (.getfield 70, 3) := by decide +kernel
theorem dX1_givingShelf_31 : decode cX1_givingShelf 31 = .ok (.iconst 1, 1) := by decide +kernel
theorem dX1_givingShelf_32 : decode cX1_givingShelf 32 = .ok (.aload_n 0, 1) := by decide +kernel
theorem dX1_givingShelf_33 : decode cX1_givingShelf 33 = .ok (.getfield 51, 3) := by decide +kernel
theorem dX1_givingShelf_36 : decode cX1_givingShelf 36 = .ok (.invokestatic 131, 3) := by decide +kernel
theorem dX1_givingShelf_39 : decode cX1_givingShelf 39 = .ok (.if_icmp .lt 7, 3) := by decide +kernel
theorem dX1_givingShelf_42 : decode cX1_givingShelf 42 = .ok (.iconst 1, 1) := by decide +kernel
theorem dX1_givingShelf_43 : decode cX1_givingShelf 43 = .ok (.goto 4, 3) := by decide +kernel
theorem dX1_givingShelf_46 : decode cX1_givingShelf 46 = .ok (.iconst 0, 1) := by decide +kernel
theorem dX1_givingShelf_47 : decode cX1_givingShelf 47 = .ok (.istore_n 2, 1) := by decide +kernel
theorem dX1_givingShelf_48 : decode cX1_givingShelf 48 = .ok (.aload_n 0, 1) := by decide +kernel
theorem dX1_givingShelf_49 : decode cX1_givingShelf 49 = .ok (.aload_n 0, 1) := by decide +kernel
theorem dX1_givingShelf_50 : decode cX1_givingShelf 50 = .ok (.getfield 18, 3) := by decide +kernel
theorem dX1_givingShelf_53 : decode cX1_givingShelf 53 = .ok (.invokevirtual 73, 3) := by decide +kernel
theorem dX1_givingShelf_56 : decode cX1_givingShelf 56 = .ok (.aload_n 0, 1) := by decide +kernel
theorem dX1_givingShelf_57 : decode cX1_givingShelf 57 = .ok (.getfield 18, 3) := by decide +kernel
theorem dX1_givingShelf_60 : decode cX1_givingShelf 60 = .ok (.getfield 70, 3) := by decide +kernel
theorem dX1_givingShelf_63 : decode cX1_givingShelf 63 = .ok (.if_icmp .lt 7, 3) := by decide +kernel
theorem dX1_givingShelf_66 : decode cX1_givingShelf 66 = .ok (.iconst 1, 1) := by decide +kernel
theorem dX1_givingShelf_67 : decode cX1_givingShelf 67 = .ok (.goto 4, 3) := by decide +kernel
theorem dX1_givingShelf_70 : decode cX1_givingShelf 70 = .ok (.iconst 0, 1) := by decide +kernel
theorem dX1_givingShelf_71 : decode cX1_givingShelf 71 = .ok (.istore_n 3, 1) := by decide +kernel
theorem dX1_givingShelf_72 : decode cX1_givingShelf 72 = .ok (.iload_n 1, 1) := by decide +kernel
theorem dX1_givingShelf_73 : decode cX1_givingShelf 73 = .ok (.ifCond .eq 15, 3) := by decide +kernel
theorem dX1_givingShelf_76 : decode cX1_givingShelf 76 = .ok (.iload_n 2, 1) := by decide +kernel
theorem dX1_givingShelf_77 : decode cX1_givingShelf 77 = .ok (.ifCond .ne 7, 3) := by decide +kernel
theorem dX1_givingShelf_80 : decode cX1_givingShelf 80 = .ok (.iload_n 3, 1) := by decide +kernel
theorem dX1_givingShelf_81 : decode cX1_givingShelf 81 = .ok (.ifCond .eq 7, 3) := by decide +kernel
theorem dX1_givingShelf_84 : decode cX1_givingShelf 84 = .ok (.iconst 0, 1) := by decide +kernel
theorem dX1_givingShelf_85 : decode cX1_givingShelf 85 = .ok (.goto 4, 3) := by decide +kernel
theorem dX1_givingShelf_88 : decode cX1_givingShelf 88 = .ok (.iconst 1, 1) := by decide +kernel
theorem dX1_givingShelf_89 : decode cX1_givingShelf 89 = .ok (.ireturn, 1) := by decide +kernel
theorem dX1_changePins_0 : decode cX1_changePins 0 = .ok (.aload_n 0, 1) := by decide +kernel
theorem dX1_changePins_1 : decode cX1_changePins 1 = .ok (.getfield 34, 3) := by decide +kernel
theorem dX1_changePins_4 : decode cX1_changePins 4 = .ok (.iload_n 1, 1) := by decide +kernel
theorem dX1_changePins_5 : decode cX1_changePins 5 = .ok (.aload_n 0, 1) := by decide +kernel
theorem dX1_changePins_6 : decode cX1_changePins 6 = .ok (.getfield 34, 3) := by decide +kernel
theorem dX1_changePins_9 : decode cX1_changePins 9 = .ok (.iload_n 1, 1) := by decide +kernel
theorem dX1_changePins_10 : decode cX1_changePins 10 = .ok (.invokevirtual 81, 3) := by decide +kernel
theorem dX1_changePins_13 : decode cX1_changePins 13 = .ok (.iload_n 2, 1) := by decide +kernel
theorem dX1_changePins_14 : decode cX1_changePins 14 = .ok (.iadd, 1) := by decide +kernel
theorem dX1_changePins_15 : decode cX1_changePins 15 = .ok (.invokevirtual 97, 3) := by decide +kernel
theorem dX1_changePins_18 : decode cX1_changePins 18 = .ok (.aload_n 0, 1) := by decide +kernel
theorem dX1_changePins_19 : decode cX1_changePins 19 = .ok (.getfield 34, 3) := by decide +kernel
theorem dX1_changePins_22 : decode cX1_changePins 22 = .ok (.iload_n 1, 1) := by decide +kernel
theorem dX1_changePins_23 : decode cX1_changePins 23 = .ok (.invokevirtual 81, 3) := by decide +kernel
theorem dX1_changePins_26 : decode cX1_changePins 26 = .ok (.ireturn, 1) := by decide +kernel
theorem dX1_remove_0 : decode cX1_remove 0 = .ok (.aload_n 0, 1) := by decide +kernel
theorem dX1_remove_1 : decode cX1_remove 1 = .ok (.getfield 12, 3) := by decide +kernel
theorem dX1_remove_4 : decode cX1_remove 4 = .ok (.aload_n 0, 1) := by decide +kernel
theorem dX1_remove_5 : decode cX1_remove 5 = .ok (.getfield 12, 3) := by decide +kernel
theorem dX1_remove_8 : decode cX1_remove 8 = .ok (.iload_n 1, 1) := by decide +kernel
theorem dX1_remove_9 : decode cX1_remove 9 = .ok (.invokevirtual 124, 3) := by decide +kernel
theorem dX1_remove_12 : decode cX1_remove 12 = .ok (.invokevirtual 127, 3) := by decide +kernel
theorem dX1_remove_15 : decode cX1_remove 15 = .ok (.aload_n 0, 1) := by decide +kernel
theorem dX1_remove_16 : decode cX1_remove 16 = .ok (.getfield 18, 3) := by decide +kernel
theorem dX1_remove_19 : decode cX1_remove 19 = .ok (.aload_n 0, 1) := by decide +kernel
theorem dX1_remove_20 : decode cX1_remove 20 = .ok (.getfield 18, 3) := by decide +kernel
theorem dX1_remove_23 : decode cX1_remove 23 = .ok (.iload_n 1, 1) := by decide +kernel
theorem dX1_remove_24 : decode cX1_remove 24 = .ok (.invokevirtual 124, 3) := by decide +kernel
theorem dX1_remove_27 : decode cX1_remove 27 = .ok (.invokevirtual 127, 3) := by decide +kernel
theorem dX1_remove_30 : decode cX1_remove 30 = .ok (.aload_n 0, 1) := by decide +kernel
theorem dX1_remove_31 : decode cX1_remove 31 = .ok (.getfield 37, 3) := by decide +kernel
theorem dX1_remove_34 : decode cX1_remove 34 = .ok (.iload_n 1, 1) := by decide +kernel
theorem dX1_remove_35 : decode cX1_remove 35 = .ok (.invokevirtual 81, 3) := by decide +kernel
theorem dX1_remove_38 : decode cX1_remove 38 = .ok (.ireturn, 1) := by decide +kernel
theorem dX1_resize_0 : decode cX1_resize 0 = .ok (.aload_n 0, 1) := by decide +kernel
theorem dX1_resize_1 : decode cX1_resize 1 = .ok (.iload_n 1, 1) := by decide +kernel
theorem dX1_resize_2 : decode cX1_resize 2 = .ok (.putfield 40, 3) := by decide +kernel
theorem dX1_resize_5 : decode cX1_resize 5 = .ok (.aload_n 0, 1) := by decide +kernel
theorem dX1_resize_6 : decode cX1_resize 6 = .ok (.invokevirtual 87, 3) := by decide +kernel
theorem dX1_resize_9 : decode cX1_resize 9 = .ok (.aload_n 0, 1) := by decide +kernel
theorem dX1_resize_10 : decode cX1_resize 10 = .ok (.getfield 40, 3) := by decide +kernel
theorem dX1_resize_13 : decode cX1_resize 13 = .ok (.isub, 1) := by decide +kernel
theorem dX1_resize_14 : decode cX1_resize 14 = .ok (.istore_n 2, 1) := by decide +kernel
theorem dX1_resize_15 : decode cX1_resize 15 = .ok (.iload_n 2, 1) := by decide +kernel
theorem dX1_resize_16 : decode cX1_resize 16 = .ok (.ifCond .le 14, 3) := by decide +kernel
theorem dX1_resize_19 : decode cX1_resize 19 = .ok (.aload_n 0, 1) := by decide +kernel
theorem dX1_resize_20 : decode cX1_resize 20 = .ok (.invokevirtual 104, 3) := by decide +kernel
theorem dX1_resize_23 : decode cX1_resize 23 = .ok (.pop, 1) := by decide +kernel
theorem dX1_resize_24 : decode cX1_resize 24 = .ok (.iinc 2 (-1), 3) := by decide +kernel
theorem dX1_resize_27 : decode cX1_resize 27 = .ok (.goto (-12), 3) := by decide +kernel
theorem dX1_resize_30 : decode cX1_resize 30 = .ok (.aload_n 0, 1) := by decide +kernel
theorem dX1_resize_31 : decode cX1_resize 31 = .ok (.aload_n 0, 1) := by decide +kernel
theorem dX1_resize_32 : decode cX1_resize 32 = .ok (.getfield 51, 3) := by decide +kernel
theorem dX1_resize_35 : decode cX1_resize 35 = .ok (.aload_n 0, 1) := by decide +kernel
theorem dX1_resize_36 : decode cX1_resize 36 = .ok (.getfield 40, 3) := by decide +kernel
theorem dX1_resize_39 : decode cX1_resize 39 = .ok (.invokestatic 118, 3) := by decide +kernel
theorem dX1_resize_42 : decode cX1_resize 42 = .ok (.putfield 51, 3) := by decide +kernel
theorem dX1_resize_45 : decode cX1_resize 45 = .ok (.aload_n 0, 1) := by decide +kernel
theorem dX1_resize_46 : decode cX1_resize 46 = .ok (.getfield 21, 3) := by decide +kernel
theorem dX1_resize_49 : decode cX1_resize 49 = .ok (.aload_n 0, 1) := by decide +kernel
theorem dX1_resize_50 : decode cX1_resize 50 = .ok (.getfield 40, 3) := by decide +kernel
theorem dX1_resize_53 : decode cX1_resize 53 = .ok (.invokevirtual 148, 3) := by decide +kernel
theorem dX1_resize_56 : decode cX1_resize 56 = .ok (.aload_n 0, 1) := by decide +kernel
theorem dX1_resize_57 : decode cX1_resize 57 = .ok (.getfield 24, 3) := by decide +kernel
theorem dX1_resize_60 : decode cX1_resize 60 = .ok (.aload_n 0, 1) := by decide +kernel
theorem dX1_resize_61 : decode cX1_resize 61 = .ok (.getfield 40, 3) := by decide +kernel
theorem dX1_resize_64 : decode cX1_resize 64 = .ok (.invokevirtual 148, 3) := by decide +kernel
theorem dX1_resize_67 : decode cX1_resize 67 = .ok (.return_, 1) := by decide +kernel
theorem dX1_detail_0 : decode cX1_detail 0 = .ok (.aload_n 0, 1) := by decide +kernel
theorem dX1_detail_1 : decode cX1_detail 1 = .ok (.getfield 12, 3) := by decide +kernel
theorem dX1_detail_4 : decode cX1_detail 4 = .ok (.iload_n 1, 1) := by decide +kernel
theorem dX1_detail_5 : decode cX1_detail 5 = .ok (.invokevirtual 66, 3) := by decide +kernel
theorem dX1_detail_8 : decode cX1_detail 8 = .ok (.ifCond .eq 7, 3) := by decide +kernel
theorem dX1_detail_11 : decode cX1_detail 11 = .ok (.iconst 0, 1) := by decide +kernel
theorem dX1_detail_12 : decode cX1_detail 12 = .ok (.goto 4, 3) := by decide +kernel
theorem dX1_detail_15 : decode cX1_detail 15 = .ok (.iconst 1, 1) := by decide +kernel
theorem dX1_detail_16 : decode cX1_detail 16 = .ok (.istore_n 3, 1) := by decide +kernel
theorem dX1_detail_17 : decode cX1_detail 17 = .ok (.aload_n 0, 1) := by decide +kernel
theorem dX1_detail_18 : decode cX1_detail 18 = .ok (.iload_n 3, 1) := by decide +kernel
theorem dX1_detail_19 : decode cX1_detail 19 = .ok (.invokevirtual 141, 3) := by decide +kernel
theorem dX1_detail_22 : decode cX1_detail 22 = .ok (.iload_n 1, 1) := by decide +kernel
theorem dX1_detail_23 : decode cX1_detail 23 = .ok (.invokevirtual 124, 3) := by decide +kernel
theorem dX1_detail_26 : decode cX1_detail 26 = .ok (.istore 4, 2) := by decide +kernel
theorem dX1_detail_28 : decode cX1_detail 28 = .ok (.iload 4, 2) := by decide +kernel
theorem dX1_detail_30 : decode cX1_detail 30 = .ok (.iconst (-1), 1) := by decide +kernel
theorem dX1_detail_31 : decode cX1_detail 31 = .ok (.if_icmp .ne 5, 3) := by decide +kernel
theorem dX1_detail_34 : decode cX1_detail 34 = .ok (.iconst (-1), 1) := by decide +kernel
theorem dX1_detail_35 : decode cX1_detail 35 = .ok (.ireturn, 1) := by decide +kernel
theorem dX1_detail_36 : decode cX1_detail 36 = .ok (.iload_n 2, 1) := by decide +kernel
theorem dX1_detail_37 : decode cX1_detail 37 = .ok (.tableswitch 54 0 3 #[31, 33, 36, 45], 31) := by decide +kernel
theorem dX1_detail_68 : decode cX1_detail 68 = .ok (.iload_n 3, 1) := by decide +kernel
theorem dX1_detail_69 : decode cX1_detail 69 = .ok (.ireturn, 1) := by decide +kernel
theorem dX1_detail_70 : decode cX1_detail 70 = .ok (.iload 4, 2) := by decide +kernel
theorem dX1_detail_72 : decode cX1_detail 72 = .ok (.ireturn, 1) := by decide +kernel
theorem dX1_detail_73 : decode cX1_detail 73 = .ok (.aload_n 0, 1) := by decide +kernel
theorem dX1_detail_74 : decode cX1_detail 74 = .ok (.getfield 30, 3) := by decide +kernel
theorem dX1_detail_77 : decode cX1_detail 77 = .ok (.iload_n 1, 1) := by decide +kernel
theorem dX1_detail_78 : decode cX1_detail 78 = .ok (.invokevirtual 81, 3) := by decide +kernel
theorem dX1_detail_81 : decode cX1_detail 81 = .ok (.ireturn, 1) := by decide +kernel
theorem dX1_detail_82 : decode cX1_detail 82 = .ok (.aload_n 0, 1) := by decide +kernel
theorem dX1_detail_83 : decode cX1_detail 83 = .ok (.getfield 34, 3) := by decide +kernel
theorem dX1_detail_86 : decode cX1_detail 86 = .ok (.iload_n 1, 1) := by decide +kernel
theorem dX1_detail_87 : decode cX1_detail 87 = .ok (.invokevirtual 81, 3) := by decide +kernel
theorem dX1_detail_90 : decode cX1_detail 90 = .ok (.ireturn, 1) := by decide +kernel
theorem dX1_detail_91 : decode cX1_detail 91 = .ok (.aload_n 0, 1) := by decide +kernel
theorem dX1_detail_92 : decode cX1_detail 92 = .ok (.getfield 37, 3) := by decide +kernel
theorem dX1_detail_95 : decode cX1_detail 95 = .ok (.iload_n 1, 1) := by decide +kernel
theorem dX1_detail_96 : decode cX1_detail 96 = .ok (.invokevirtual 81, 3) := by decide +kernel
theorem dX1_detail_99 : decode cX1_detail 99 = .ok (.ireturn, 1) := by decide +kernel
theorem dX1_tally_0 : decode cX1_tally 0 = .ok (.iload_n 1, 1) := by decide +kernel
theorem dX1_tally_1 : decode cX1_tally 1 = .ok (.tableswitch 117 0 9 #[55, 60, 68, 76, 84, 92, 97, 102, 107, 112], 55) := by decide +kernel
theorem dX1_tally_56 : decode cX1_tally 56 = .ok (.aload_n 0, 1) := by decide +kernel
theorem dX1_tally_57 : decode cX1_tally 57 = .ok (.getfield 40, 3) := by decide +kernel
theorem dX1_tally_60 : decode cX1_tally 60 = .ok (.ireturn, 1) := by decide +kernel
theorem dX1_tally_61 : decode cX1_tally 61 = .ok (.aload_n 0, 1) := by decide +kernel
theorem dX1_tally_62 : decode cX1_tally 62 = .ok (.getfield 12, 3) := by decide +kernel
theorem dX1_tally_65 : decode cX1_tally 65 = .ok (.getfield 70, 3) := by decide +kernel
theorem dX1_tally_68 : decode cX1_tally 68 = .ok (.ireturn, 1) := by decide +kernel
theorem dX1_tally_69 : decode cX1_tally 69 = .ok (.aload_n 0, 1) := by decide +kernel
theorem dX1_tally_70 : decode cX1_tally 70 = .ok (.getfield 18, 3) := by decide +kernel
theorem dX1_tally_73 : decode cX1_tally 73 = .ok (.getfield 70, 3) := by decide +kernel
theorem dX1_tally_76 : decode cX1_tally 76 = .ok (.ireturn, 1) := by decide +kernel
theorem dX1_tally_77 : decode cX1_tally 77 = .ok (.aload_n 0, 1) := by decide +kernel
theorem dX1_tally_78 : decode cX1_tally 78 = .ok (.getfield 21, 3) := by decide +kernel
theorem dX1_tally_81 : decode cX1_tally 81 = .ok (.getfield 70, 3) := by decide +kernel
theorem dX1_tally_84 : decode cX1_tally 84 = .ok (.ireturn, 1) := by decide +kernel
theorem dX1_tally_85 : decode cX1_tally 85 = .ok (.aload_n 0, 1) := by decide +kernel
theorem dX1_tally_86 : decode cX1_tally 86 = .ok (.getfield 24, 3) := by decide +kernel
theorem dX1_tally_89 : decode cX1_tally 89 = .ok (.getfield 70, 3) := by decide +kernel
theorem dX1_tally_92 : decode cX1_tally 92 = .ok (.ireturn, 1) := by decide +kernel
theorem dX1_tally_93 : decode cX1_tally 93 = .ok (.aload_n 0, 1) := by decide +kernel
theorem dX1_tally_94 : decode cX1_tally 94 = .ok (.getfield 51, 3) := by decide +kernel
theorem dX1_tally_97 : decode cX1_tally 97 = .ok (.ireturn, 1) := by decide +kernel
theorem dX1_tally_98 : decode cX1_tally 98 = .ok (.aload_n 0, 1) := by decide +kernel
theorem dX1_tally_99 : decode cX1_tally 99 = .ok (.getfield 54, 3) := by decide +kernel
theorem dX1_tally_102 : decode cX1_tally 102 = .ok (.ireturn, 1) := by decide +kernel
theorem dX1_tally_103 : decode cX1_tally 103 = .ok (.aload_n 0, 1) := by decide +kernel
theorem dX1_tally_104 : decode cX1_tally 104 = .ok (.getfield 57, 3) := by decide +kernel
theorem dX1_tally_107 : decode cX1_tally 107 = .ok (.ireturn, 1) := by decide +kernel
theorem dX1_tally_108 : decode cX1_tally 108 = .ok (.aload_n 0, 1) := by decide +kernel
theorem dX1_tally_109 : decode cX1_tally 109 = .ok (.getfield 60, 3) := by decide +kernel
theorem dX1_tally_112 : decode cX1_tally 112 = .ok (.ireturn, 1) := by decide +kernel
theorem dX1_tally_113 : decode cX1_tally 113 = .ok (.aload_n 0, 1) := by decide +kernel
theorem dX1_tally_114 : decode cX1_tally 114 = .ok (.getfield 63, 3) := by decide +kernel
theorem dX1_tally_117 : decode cX1_tally 117 = .ok (.ireturn, 1) := by decide +kernel
theorem dX1_tally_118 : decode cX1_tally 118 = .ok (.aload_n 0, 1) := by decide +kernel
theorem dX1_tally_119 : decode cX1_tally 119 = .ok (.invokevirtual 91, 3) := by decide +kernel
theorem dX1_tally_122 : decode cX1_tally 122 = .ok (.ireturn, 1) := by decide +kernel
theorem dX1_fetchesOfAll_0 : decode cX1_fetchesOfAll 0 = .ok (.iconst 0, 1) := by decide +kernel
theorem dX1_fetchesOfAll_1 : decode cX1_fetchesOfAll 1 = .ok (.istore_n 1, 1) := by decide +kernel
theorem dX1_fetchesOfAll_2 : decode cX1_fetchesOfAll 2 = .ok (.iconst 0, 1) := by decide +kernel
theorem dX1_fetchesOfAll_3 : decode cX1_fetchesOfAll 3 = .ok (.istore_n 2, 1) := by decide +kernel
theorem dX1_fetchesOfAll_4 : decode cX1_fetchesOfAll 4 = .ok (.iload_n 2, 1) := by decide +kernel
theorem dX1_fetchesOfAll_5 : decode cX1_fetchesOfAll 5 = .ok (.bipush 40, 2) := by decide +kernel
theorem dX1_fetchesOfAll_7 : decode cX1_fetchesOfAll 7 = .ok (.if_icmp .ge 28, 3) := by decide +kernel
theorem dX1_fetchesOfAll_10 : decode cX1_fetchesOfAll 10 = .ok (.aload_n 0, 1) := by decide +kernel
theorem dX1_fetchesOfAll_11 : decode cX1_fetchesOfAll 11 = .ok (.iload_n 2, 1) := by decide +kernel
theorem dX1_fetchesOfAll_12 : decode cX1_fetchesOfAll 12 = .ok (.invokevirtual 84, 3) := by decide +kernel
theorem dX1_fetchesOfAll_15 : decode cX1_fetchesOfAll 15 = .ok (.ifCond .eq 14, 3) := by decide +kernel
theorem dX1_fetchesOfAll_18 : decode cX1_fetchesOfAll 18 = .ok (.iload_n 1, 1) := by decide +kernel
theorem dX1_fetchesOfAll_19 : decode cX1_fetchesOfAll 19 = .ok (.aload_n 0, 1) := by decide +kernel
theorem dX1_fetchesOfAll_20 : decode cX1_fetchesOfAll 20 = .ok (.getfield 37, 3) := by decide +kernel
theorem dX1_fetchesOfAll_23 : decode cX1_fetchesOfAll 23 = .ok (.iload_n 2, 1) := by decide +kernel
theorem dX1_fetchesOfAll_24 : decode cX1_fetchesOfAll 24 = .ok (.invokevirtual 81, 3) := by decide +kernel
theorem dX1_fetchesOfAll_27 : decode cX1_fetchesOfAll 27 = .ok (.iadd, 1) := by decide +kernel
theorem dX1_fetchesOfAll_28 : decode cX1_fetchesOfAll 28 = .ok (.istore_n 1, 1) := by decide +kernel
theorem dX1_fetchesOfAll_29 : decode cX1_fetchesOfAll 29 = .ok (.iinc 2 1, 3) := by decide +kernel
theorem dX1_fetchesOfAll_32 : decode cX1_fetchesOfAll 32 = .ok (.goto (-28), 3) := by decide +kernel
theorem dX1_fetchesOfAll_35 : decode cX1_fetchesOfAll 35 = .ok (.iload_n 1, 1) := by decide +kernel
theorem dX1_fetchesOfAll_36 : decode cX1_fetchesOfAll 36 = .ok (.ireturn, 1) := by decide +kernel
theorem dX2_init_0 : decode cX2_init 0 = .ok (.aload_n 0, 1) := by decide +kernel
theorem dX2_init_1 : decode cX2_init 1 = .ok (.invokespecial 3, 3) := by decide +kernel
theorem dX2_init_4 : decode cX2_init 4 = .ok (.aload_n 0, 1) := by decide +kernel
theorem dX2_init_5 : decode cX2_init 5 = .ok (.bipush 40, 2) := by decide +kernel
theorem dX2_init_7 : decode cX2_init 7 = .ok (.newarray .int, 2) := by decide +kernel
theorem dX2_init_9 : decode cX2_init 9 = .ok (.putfield 9, 3) := by decide +kernel
theorem dX2_init_12 : decode cX2_init 12 = .ok (.return_, 1) := by decide +kernel
theorem dX2_become_0 : decode cX2_become 0 = .ok (.iconst 0, 1) := by decide +kernel
theorem dX2_become_1 : decode cX2_become 1 = .ok (.istore_n 2, 1) := by decide +kernel
theorem dX2_become_2 : decode cX2_become 2 = .ok (.iload_n 2, 1) := by decide +kernel
theorem dX2_become_3 : decode cX2_become 3 = .ok (.aload_n 0, 1) := by decide +kernel
theorem dX2_become_4 : decode cX2_become 4 = .ok (.getfield 9, 3) := by decide +kernel
theorem dX2_become_7 : decode cX2_become 7 = .ok (.arraylength, 1) := by decide +kernel
theorem dX2_become_8 : decode cX2_become 8 = .ok (.if_icmp .ge 30, 3) := by decide +kernel
theorem dX2_become_11 : decode cX2_become 11 = .ok (.iload_n 2, 1) := by decide +kernel
theorem dX2_become_12 : decode cX2_become 12 = .ok (.aload_n 1, 1) := by decide +kernel
theorem dX2_become_13 : decode cX2_become 13 = .ok (.getfield 9, 3) := by decide +kernel
theorem dX2_become_16 : decode cX2_become 16 = .ok (.arraylength, 1) := by decide +kernel
theorem dX2_become_17 : decode cX2_become 17 = .ok (.if_icmp .ge 21, 3) := by decide +kernel
theorem dX2_become_20 : decode cX2_become 20 = .ok (.aload_n 0, 1) := by decide +kernel
theorem dX2_become_21 : decode cX2_become 21 = .ok (.getfield 9, 3) := by decide +kernel
theorem dX2_become_24 : decode cX2_become 24 = .ok (.iload_n 2, 1) := by decide +kernel
theorem dX2_become_25 : decode cX2_become 25 = .ok (.aload_n 1, 1) := by decide +kernel
theorem dX2_become_26 : decode cX2_become 26 = .ok (.getfield 9, 3) := by decide +kernel
theorem dX2_become_29 : decode cX2_become 29 = .ok (.iload_n 2, 1) := by decide +kernel
theorem dX2_become_30 : decode cX2_become 30 = .ok (.iaload, 1) := by decide +kernel
theorem dX2_become_31 : decode cX2_become 31 = .ok (.iastore, 1) := by decide +kernel
theorem dX2_become_32 : decode cX2_become 32 = .ok (.iinc 2 1, 3) := by decide +kernel
theorem dX2_become_35 : decode cX2_become 35 = .ok (.goto (-33), 3) := by decide +kernel
theorem dX2_become_38 : decode cX2_become 38 = .ok (.return_, 1) := by decide +kernel
theorem dX2_of_0 : decode cX2_of 0 = .ok (.iload_n 1, 1) := by decide +kernel
theorem dX2_of_1 : decode cX2_of 1 = .ok (.ifCond .lt 21, 3) := by decide +kernel
theorem dX2_of_4 : decode cX2_of 4 = .ok (.iload_n 1, 1) := by decide +kernel
theorem dX2_of_5 : decode cX2_of 5 = .ok (.aload_n 0, 1) := by decide +kernel
theorem dX2_of_6 : decode cX2_of 6 = .ok (.getfield 9, 3) := by decide +kernel
theorem dX2_of_9 : decode cX2_of 9 = .ok (.arraylength, 1) := by decide +kernel
theorem dX2_of_10 : decode cX2_of 10 = .ok (.if_icmp .ge 12, 3) := by decide +kernel
theorem dX2_of_13 : decode cX2_of 13 = .ok (.aload_n 0, 1) := by decide +kernel
theorem dX2_of_14 : decode cX2_of 14 = .ok (.getfield 9, 3) := by decide +kernel
theorem dX2_of_17 : decode cX2_of 17 = .ok (.iload_n 1, 1) := by decide +kernel
theorem dX2_of_18 : decode cX2_of 18 = .ok (.iaload, 1) := by decide +kernel
theorem dX2_of_19 : decode cX2_of 19 = .ok (.goto 4, 3) := by decide +kernel
theorem dX2_of_22 : decode cX2_of 22 = .ok (.iconst 0, 1) := by decide +kernel
theorem dX2_of_23 : decode cX2_of 23 = .ok (.ireturn, 1) := by decide +kernel
theorem dX2_put_0 : decode cX2_put 0 = .ok (.iload_n 1, 1) := by decide +kernel
theorem dX2_put_1 : decode cX2_put 1 = .ok (.ifCond .lt 19, 3) := by decide +kernel
theorem dX2_put_4 : decode cX2_put 4 = .ok (.iload_n 1, 1) := by decide +kernel
theorem dX2_put_5 : decode cX2_put 5 = .ok (.aload_n 0, 1) := by decide +kernel
theorem dX2_put_6 : decode cX2_put 6 = .ok (.getfield 9, 3) := by decide +kernel
theorem dX2_put_9 : decode cX2_put 9 = .ok (.arraylength, 1) := by decide +kernel
theorem dX2_put_10 : decode cX2_put 10 = .ok (.if_icmp .ge 10, 3) := by decide +kernel
theorem dX2_put_13 : decode cX2_put 13 = .ok (.aload_n 0, 1) := by decide +kernel
theorem dX2_put_14 : decode cX2_put 14 = .ok (.getfield 9, 3) := by decide +kernel
theorem dX2_put_17 : decode cX2_put 17 = .ok (.iload_n 1, 1) := by decide +kernel
theorem dX2_put_18 : decode cX2_put 18 = .ok (.iload_n 2, 1) := by decide +kernel
theorem dX2_put_19 : decode cX2_put 19 = .ok (.iastore, 1) := by decide +kernel
theorem dX2_put_20 : decode cX2_put 20 = .ok (.return_, 1) := by decide +kernel
theorem dX3_init_0 : decode cX3_init 0 = .ok (.aload_n 0, 1) := by decide +kernel
theorem dX3_init_1 : decode cX3_init 1 = .ok (.invokespecial 1, 3) := by decide +kernel
theorem dX3_init_4 : decode cX3_init 4 = .ok (.aload_n 0, 1) := by decide +kernel
theorem dX3_init_5 : decode cX3_init 5 = .ok (.new 7, 3) := by decide +kernel
theorem dX3_init_8 : decode cX3_init 8 = .ok (.dup, 1) := by decide +kernel
theorem dX3_init_9 : decode cX3_init 9 = .ok (.invokespecial 9, 3) := by decide +kernel
theorem dX3_init_12 : decode cX3_init 12 = .ok (.putfield 10, 3) := by decide +kernel
theorem dX3_init_15 : decode cX3_init 15 = .ok (.aload_n 0, 1) := by decide +kernel
theorem dX3_init_16 : decode cX3_init 16 = .ok (.new 7, 3) := by decide +kernel
theorem dX3_init_19 : decode cX3_init 19 = .ok (.dup, 1) := by decide +kernel
theorem dX3_init_20 : decode cX3_init 20 = .ok (.invokespecial 9, 3) := by decide +kernel
theorem dX3_init_23 : decode cX3_init 23 = .ok (.putfield 16, 3) := by decide +kernel
theorem dX3_init_26 : decode cX3_init 26 = .ok (.return_, 1) := by decide +kernel
theorem dX3_fetch_0 : decode cX3_fetch 0 = .ok (.iload_n 1, 1) := by decide +kernel
theorem dX3_fetch_1 : decode cX3_fetch 1 = .ok (.invokestatic 19, 3) := by decide +kernel
theorem dX3_fetch_4 : decode cX3_fetch 4 = .ok (.aload_n 0, 1) := by decide +kernel
theorem dX3_fetch_5 : decode cX3_fetch 5 = .ok (.getfield 10, 3) := by decide +kernel
end
section
theorem dX3_fetch_8 : decode cX3_fetch 8 = .ok (.iload_n 1, 1) := by decide +kernel
theorem dX3_fetch_9 : decode cX3_fetch 9 = .ok (.invokevirtual 23, 3) := by decide +kernel
theorem dX3_fetch_12 : decode cX3_fetch 12 = .ok (.istore_n 2, 1) := by decide +kernel
theorem dX3_fetch_13 : decode cX3_fetch 13 = .ok (.iload_n 2, 1) := by decide +kernel
theorem dX3_fetch_14 : decode cX3_fetch 14 = .ok (.bipush (-9), 2) := by decide +kernel
theorem dX3_fetch_16 : decode cX3_fetch 16 = .ok (.if_icmp .ne 13, 3) := by decide +kernel
theorem dX3_fetch_19 : decode cX3_fetch 19 = .ok (.new 27, 3) := by decide +kernel
theorem dX3_fetch_22 : decode cX3_fetch 22 = .ok (.dup, 1) := by decide +kernel
theorem dX3_fetch_23 : decode cX3_fetch 23 = .ok (.ldc 29, 2) := by decide +kernel
theorem dX3_fetch_25 : decode cX3_fetch 25 = .ok (.invokespecial 31, 3) := by decide +kernel
theorem dX3_fetch_28 : decode cX3_fetch 28 = .ok (.athrow, 1) := by decide +kernel
theorem dX3_fetch_29 : decode cX3_fetch 29 = .ok (.iload_n 2, 1) := by decide +kernel
theorem dX3_fetch_30 : decode cX3_fetch 30 = .ok (.ireturn, 1) := by decide +kernel
theorem dX3_fetchAll_0 : decode cX3_fetchAll 0 = .ok (.iload_n 1, 1) := by decide +kernel
theorem dX3_fetchAll_1 : decode cX3_fetchAll 1 = .ok (.iload_n 2, 1) := by decide +kernel
theorem dX3_fetchAll_2 : decode cX3_fetchAll 2 = .ok (.iload_n 3, 1) := by decide +kernel
theorem dX3_fetchAll_3 : decode cX3_fetchAll 3 = .ok (.invokestatic 34, 3) := by decide +kernel
theorem dX3_fetchAll_6 : decode cX3_fetchAll 6 = .ok (.aload_n 0, 1) := by decide +kernel
theorem dX3_fetchAll_7 : decode cX3_fetchAll 7 = .ok (.getfield 10, 3) := by decide +kernel
theorem dX3_fetchAll_10 : decode cX3_fetchAll 10 = .ok (.iload_n 1, 1) := by decide +kernel
theorem dX3_fetchAll_11 : decode cX3_fetchAll 11 = .ok (.iload_n 2, 1) := by decide +kernel
theorem dX3_fetchAll_12 : decode cX3_fetchAll 12 = .ok (.iload_n 3, 1) := by decide +kernel
theorem dX3_fetchAll_13 : decode cX3_fetchAll 13 = .ok (.invokevirtual 38, 3) := by decide +kernel
theorem dX3_fetchAll_16 : decode cX3_fetchAll 16 = .ok (.ireturn, 1) := by decide +kernel
theorem dX3_pin_0 : decode cX3_pin 0 = .ok (.iload_n 1, 1) := by decide +kernel
theorem dX3_pin_1 : decode cX3_pin 1 = .ok (.invokestatic 19, 3) := by decide +kernel
theorem dX3_pin_4 : decode cX3_pin 4 = .ok (.aload_n 0, 1) := by decide +kernel
theorem dX3_pin_5 : decode cX3_pin 5 = .ok (.iload_n 1, 1) := by decide +kernel
theorem dX3_pin_6 : decode cX3_pin 6 = .ok (.invokevirtual 42, 3) := by decide +kernel
theorem dX3_pin_9 : decode cX3_pin 9 = .ok (.aload_n 0, 1) := by decide +kernel
theorem dX3_pin_10 : decode cX3_pin 10 = .ok (.getfield 10, 3) := by decide +kernel
theorem dX3_pin_13 : decode cX3_pin 13 = .ok (.getfield 45, 3) := by decide +kernel
theorem dX3_pin_16 : decode cX3_pin 16 = .ok (.iload_n 1, 1) := by decide +kernel
theorem dX3_pin_17 : decode cX3_pin 17 = .ok (.invokevirtual 49, 3) := by decide +kernel
theorem dX3_pin_20 : decode cX3_pin 20 = .ok (.bipush 9, 2) := by decide +kernel
theorem dX3_pin_22 : decode cX3_pin 22 = .ok (.if_icmp .lt 13, 3) := by decide +kernel
theorem dX3_pin_25 : decode cX3_pin 25 = .ok (.new 27, 3) := by decide +kernel
theorem dX3_pin_28 : decode cX3_pin 28 = .ok (.dup, 1) := by decide +kernel
theorem dX3_pin_29 : decode cX3_pin 29 = .ok (.ldc 54, 2) := by decide +kernel
theorem dX3_pin_31 : decode cX3_pin 31 = .ok (.invokespecial 31, 3) := by decide +kernel
theorem dX3_pin_34 : decode cX3_pin 34 = .ok (.athrow, 1) := by decide +kernel
theorem dX3_pin_35 : decode cX3_pin 35 = .ok (.aload_n 0, 1) := by decide +kernel
theorem dX3_pin_36 : decode cX3_pin 36 = .ok (.getfield 10, 3) := by decide +kernel
theorem dX3_pin_39 : decode cX3_pin 39 = .ok (.iload_n 1, 1) := by decide +kernel
theorem dX3_pin_40 : decode cX3_pin 40 = .ok (.iconst 1, 1) := by decide +kernel
theorem dX3_pin_41 : decode cX3_pin 41 = .ok (.invokevirtual 56, 3) := by decide +kernel
theorem dX3_pin_44 : decode cX3_pin 44 = .ok (.ireturn, 1) := by decide +kernel
theorem dX3_unpin_0 : decode cX3_unpin 0 = .ok (.iload_n 1, 1) := by decide +kernel
theorem dX3_unpin_1 : decode cX3_unpin 1 = .ok (.invokestatic 19, 3) := by decide +kernel
theorem dX3_unpin_4 : decode cX3_unpin 4 = .ok (.aload_n 0, 1) := by decide +kernel
theorem dX3_unpin_5 : decode cX3_unpin 5 = .ok (.iload_n 1, 1) := by decide +kernel
theorem dX3_unpin_6 : decode cX3_unpin 6 = .ok (.invokevirtual 42, 3) := by decide +kernel
theorem dX3_unpin_9 : decode cX3_unpin 9 = .ok (.aload_n 0, 1) := by decide +kernel
theorem dX3_unpin_10 : decode cX3_unpin 10 = .ok (.getfield 10, 3) := by decide +kernel
theorem dX3_unpin_13 : decode cX3_unpin 13 = .ok (.getfield 45, 3) := by decide +kernel
theorem dX3_unpin_16 : decode cX3_unpin 16 = .ok (.iload_n 1, 1) := by decide +kernel
theorem dX3_unpin_17 : decode cX3_unpin 17 = .ok (.invokevirtual 49, 3) := by decide +kernel
theorem dX3_unpin_20 : decode cX3_unpin 20 = .ok (.iconst 1, 1) := by decide +kernel
theorem dX3_unpin_21 : decode cX3_unpin 21 = .ok (.if_icmp .ge 13, 3) := by decide +kernel
theorem dX3_unpin_24 : decode cX3_unpin 24 = .ok (.new 27, 3) := by decide +kernel
theorem dX3_unpin_27 : decode cX3_unpin 27 = .ok (.dup, 1) := by decide +kernel
theorem dX3_unpin_28 : decode cX3_unpin 28 = .ok (.ldc 60, 2) := by decide +kernel
theorem dX3_unpin_30 : decode cX3_unpin 30 = .ok (.invokespecial 31, 3) := by decide +kernel
theorem dX3_unpin_33 : decode cX3_unpin 33 = .ok (.athrow, 1) := by decide +kernel
theorem dX3_unpin_34 : decode cX3_unpin 34 = .ok (.aload_n 0, 1) := by decide +kernel
theorem dX3_unpin_35 : decode cX3_unpin 35 = .ok (.getfield 10, 3) := by decide +kernel
theorem dX3_unpin_38 : decode cX3_unpin 38 = .ok (.iload_n 1, 1) := by decide +kernel
theorem dX3_unpin_39 : decode cX3_unpin 39 = .ok (.iconst (-1), 1) := by decide +kernel
theorem dX3_unpin_40 : decode cX3_unpin 40 = .ok (.invokevirtual 56, 3) := by decide +kernel
theorem dX3_unpin_43 : decode cX3_unpin 43 = .ok (.ireturn, 1) := by decide +kernel
theorem dX3_eat_0 : decode cX3_eat 0 = .ok (.iload_n 1, 1) := by decide +kernel
theorem dX3_eat_1 : decode cX3_eat 1 = .ok (.invokestatic 19, 3) := by decide +kernel
theorem dX3_eat_4 : decode cX3_eat 4 = .ok (.aload_n 0, 1) := by decide +kernel
theorem dX3_eat_5 : decode cX3_eat 5 = .ok (.iload_n 1, 1) := by decide +kernel
theorem dX3_eat_6 : decode cX3_eat 6 = .ok (.invokevirtual 42, 3) := by decide +kernel
theorem dX3_eat_9 : decode cX3_eat 9 = .ok (.aload_n 0, 1) := by decide +kernel
theorem dX3_eat_10 : decode cX3_eat 10 = .ok (.getfield 10, 3) := by decide +kernel
theorem dX3_eat_13 : decode cX3_eat 13 = .ok (.getfield 45, 3) := by decide +kernel
theorem dX3_eat_16 : decode cX3_eat 16 = .ok (.iload_n 1, 1) := by decide +kernel
theorem dX3_eat_17 : decode cX3_eat 17 = .ok (.invokevirtual 49, 3) := by decide +kernel
theorem dX3_eat_20 : decode cX3_eat 20 = .ok (.ifCond .le 13, 3) := by decide +kernel
theorem dX3_eat_23 : decode cX3_eat 23 = .ok (.new 27, 3) := by decide +kernel
theorem dX3_eat_26 : decode cX3_eat 26 = .ok (.dup, 1) := by decide +kernel
theorem dX3_eat_27 : decode cX3_eat 27 = .ok (.ldc 62, 2) := by decide +kernel
theorem dX3_eat_29 : decode cX3_eat 29 = .ok (.invokespecial 31, 3) := by decide +kernel
theorem dX3_eat_32 : decode cX3_eat 32 = .ok (.athrow, 1) := by decide +kernel
theorem dX3_eat_33 : decode cX3_eat 33 = .ok (.aload_n 0, 1) := by decide +kernel
theorem dX3_eat_34 : decode cX3_eat 34 = .ok (.getfield 10, 3) := by decide +kernel
theorem dX3_eat_37 : decode cX3_eat 37 = .ok (.iload_n 1, 1) := by decide +kernel
theorem dX3_eat_38 : decode cX3_eat 38 = .ok (.invokevirtual 64, 3) := by decide +kernel
theorem dX3_eat_41 : decode cX3_eat 41 = .ok (.ireturn, 1) := by decide +kernel
theorem dX3_setPlaces_0 : decode cX3_setPlaces 0 = .ok (.iload_n 1, 1) := by decide +kernel
theorem dX3_setPlaces_1 : decode cX3_setPlaces 1 = .ok (.iconst 2, 1) := by decide +kernel
theorem dX3_setPlaces_2 : decode cX3_setPlaces 2 = .ok (.if_icmp .lt 9, 3) := by decide +kernel
theorem dX3_setPlaces_5 : decode cX3_setPlaces 5 = .ok (.iload_n 1, 1) := by decide +kernel
theorem dX3_setPlaces_6 : decode cX3_setPlaces 6 = .ok (.bipush 12, 2) := by decide +kernel
theorem dX3_setPlaces_8 : decode cX3_setPlaces 8 = .ok (.if_icmp .le 13, 3) := by decide +kernel
theorem dX3_setPlaces_11 : decode cX3_setPlaces 11 = .ok (.new 67, 3) := by decide +kernel
theorem dX3_setPlaces_14 : decode cX3_setPlaces 14 = .ok (.dup, 1) := by decide +kernel
theorem dX3_setPlaces_15 : decode cX3_setPlaces 15 = .ok (.ldc 69, 2) := by decide +kernel
theorem dX3_setPlaces_17 : decode cX3_setPlaces 17 = .ok (.invokespecial 71, 3) := by decide +kernel
theorem dX3_setPlaces_20 : decode cX3_setPlaces 20 = .ok (.athrow, 1) := by decide +kernel
theorem dX3_setPlaces_21 : decode cX3_setPlaces 21 = .ok (.aload_n 0, 1) := by decide +kernel
theorem dX3_setPlaces_22 : decode cX3_setPlaces 22 = .ok (.getfield 10, 3) := by decide +kernel
theorem dX3_setPlaces_25 : decode cX3_setPlaces 25 = .ok (.invokevirtual 72, 3) := by decide +kernel
theorem dX3_setPlaces_28 : decode cX3_setPlaces 28 = .ok (.iload_n 1, 1) := by decide +kernel
theorem dX3_setPlaces_29 : decode cX3_setPlaces 29 = .ok (.if_icmp .le 13, 3) := by decide +kernel
theorem dX3_setPlaces_32 : decode cX3_setPlaces 32 = .ok (.new 27, 3) := by decide +kernel
theorem dX3_setPlaces_35 : decode cX3_setPlaces 35 = .ok (.dup, 1) := by decide +kernel
theorem dX3_setPlaces_36 : decode cX3_setPlaces 36 = .ok (.ldc 76, 2) := by decide +kernel
theorem dX3_setPlaces_38 : decode cX3_setPlaces 38 = .ok (.invokespecial 31, 3) := by decide +kernel
theorem dX3_setPlaces_41 : decode cX3_setPlaces 41 = .ok (.athrow, 1) := by decide +kernel
theorem dX3_setPlaces_42 : decode cX3_setPlaces 42 = .ok (.aload_n 0, 1) := by decide +kernel
theorem dX3_setPlaces_43 : decode cX3_setPlaces 43 = .ok (.getfield 10, 3) := by decide +kernel
theorem dX3_setPlaces_46 : decode cX3_setPlaces 46 = .ok (.getfield 78, 3) := by decide +kernel
theorem dX3_setPlaces_49 : decode cX3_setPlaces 49 = .ok (.istore_n 2, 1) := by decide +kernel
theorem dX3_setPlaces_50 : decode cX3_setPlaces 50 = .ok (.aload_n 0, 1) := by decide +kernel
theorem dX3_setPlaces_51 : decode cX3_setPlaces 51 = .ok (.getfield 10, 3) := by decide +kernel
theorem dX3_setPlaces_54 : decode cX3_setPlaces 54 = .ok (.iload_n 1, 1) := by decide +kernel
theorem dX3_setPlaces_55 : decode cX3_setPlaces 55 = .ok (.invokevirtual 82, 3) := by decide +kernel
theorem dX3_setPlaces_58 : decode cX3_setPlaces 58 = .ok (.iload_n 2, 1) := by decide +kernel
theorem dX3_setPlaces_59 : decode cX3_setPlaces 59 = .ok (.ireturn, 1) := by decide +kernel
theorem dX3_setGoal_0 : decode cX3_setGoal 0 = .ok (.iload_n 1, 1) := by decide +kernel
theorem dX3_setGoal_1 : decode cX3_setGoal 1 = .ok (.ifCond .lt 14, 3) := by decide +kernel
theorem dX3_setGoal_4 : decode cX3_setGoal 4 = .ok (.iload_n 1, 1) := by decide +kernel
theorem dX3_setGoal_5 : decode cX3_setGoal 5 = .ok (.aload_n 0, 1) := by decide +kernel
theorem dX3_setGoal_6 : decode cX3_setGoal 6 = .ok (.getfield 10, 3) := by decide +kernel
theorem dX3_setGoal_9 : decode cX3_setGoal 9 = .ok (.getfield 78, 3) := by decide +kernel
theorem dX3_setGoal_12 : decode cX3_setGoal 12 = .ok (.if_icmp .le 13, 3) := by decide +kernel
theorem dX3_setGoal_15 : decode cX3_setGoal 15 = .ok (.new 67, 3) := by decide +kernel
theorem dX3_setGoal_18 : decode cX3_setGoal 18 = .ok (.dup, 1) := by decide +kernel
theorem dX3_setGoal_19 : decode cX3_setGoal 19 = .ok (.ldc 85, 2) := by decide +kernel
theorem dX3_setGoal_21 : decode cX3_setGoal 21 = .ok (.invokespecial 71, 3) := by decide +kernel
theorem dX3_setGoal_24 : decode cX3_setGoal 24 = .ok (.athrow, 1) := by decide +kernel
theorem dX3_setGoal_25 : decode cX3_setGoal 25 = .ok (.aload_n 0, 1) := by decide +kernel
theorem dX3_setGoal_26 : decode cX3_setGoal 26 = .ok (.getfield 10, 3) := by decide +kernel
theorem dX3_setGoal_29 : decode cX3_setGoal 29 = .ok (.getfield 87, 3) := by decide +kernel
theorem dX3_setGoal_32 : decode cX3_setGoal 32 = .ok (.istore_n 2, 1) := by decide +kernel
theorem dX3_setGoal_33 : decode cX3_setGoal 33 = .ok (.aload_n 0, 1) := by decide +kernel
theorem dX3_setGoal_34 : decode cX3_setGoal 34 = .ok (.getfield 10, 3) := by decide +kernel
theorem dX3_setGoal_37 : decode cX3_setGoal 37 = .ok (.iload_n 1, 1) := by decide +kernel
theorem dX3_setGoal_38 : decode cX3_setGoal 38 = .ok (.putfield 87, 3) := by decide +kernel
theorem dX3_setGoal_41 : decode cX3_setGoal 41 = .ok (.iload_n 2, 1) := by decide +kernel
theorem dX3_setGoal_42 : decode cX3_setGoal 42 = .ok (.ireturn, 1) := by decide +kernel
theorem dX3_jar_0 : decode cX3_jar 0 = .ok (.iload_n 1, 1) := by decide +kernel
theorem dX3_jar_1 : decode cX3_jar 1 = .ok (.invokestatic 19, 3) := by decide +kernel
theorem dX3_jar_4 : decode cX3_jar 4 = .ok (.iload_n 2, 1) := by decide +kernel
theorem dX3_jar_5 : decode cX3_jar 5 = .ok (.ifCond .lt 8, 3) := by decide +kernel
theorem dX3_jar_8 : decode cX3_jar 8 = .ok (.iload_n 2, 1) := by decide +kernel
theorem dX3_jar_9 : decode cX3_jar 9 = .ok (.iconst 5, 1) := by decide +kernel
theorem dX3_jar_10 : decode cX3_jar 10 = .ok (.if_icmp .lt 13, 3) := by decide +kernel
theorem dX3_jar_13 : decode cX3_jar 13 = .ok (.new 90, 3) := by decide +kernel
theorem dX3_jar_16 : decode cX3_jar 16 = .ok (.dup, 1) := by decide +kernel
theorem dX3_jar_17 : decode cX3_jar 17 = .ok (.ldc 92, 2) := by decide +kernel
theorem dX3_jar_19 : decode cX3_jar 19 = .ok (.invokespecial 94, 3) := by decide +kernel
theorem dX3_jar_22 : decode cX3_jar 22 = .ok (.athrow, 1) := by decide +kernel
theorem dX3_jar_23 : decode cX3_jar 23 = .ok (.aload_n 0, 1) := by decide +kernel
theorem dX3_jar_24 : decode cX3_jar 24 = .ok (.getfield 10, 3) := by decide +kernel
theorem dX3_jar_27 : decode cX3_jar 27 = .ok (.iload_n 1, 1) := by decide +kernel
theorem dX3_jar_28 : decode cX3_jar 28 = .ok (.iload_n 2, 1) := by decide +kernel
theorem dX3_jar_29 : decode cX3_jar 29 = .ok (.invokevirtual 95, 3) := by decide +kernel
theorem dX3_jar_32 : decode cX3_jar 32 = .ok (.ireturn, 1) := by decide +kernel
theorem dX3_shelf_0 : decode cX3_shelf 0 = .ok (.iload_n 1, 1) := by decide +kernel
theorem dX3_shelf_1 : decode cX3_shelf 1 = .ok (.invokestatic 98, 3) := by decide +kernel
theorem dX3_shelf_4 : decode cX3_shelf 4 = .ok (.aload_n 0, 1) := by decide +kernel
theorem dX3_shelf_5 : decode cX3_shelf 5 = .ok (.getfield 10, 3) := by decide +kernel
theorem dX3_shelf_8 : decode cX3_shelf 8 = .ok (.iload_n 1, 1) := by decide +kernel
theorem dX3_shelf_9 : decode cX3_shelf 9 = .ok (.invokevirtual 101, 3) := by decide +kernel
theorem dX3_shelf_12 : decode cX3_shelf 12 = .ok (.iload_n 2, 1) := by decide +kernel
theorem dX3_shelf_13 : decode cX3_shelf 13 = .ok (.invokestatic 105, 3) := by decide +kernel
theorem dX3_shelf_16 : decode cX3_shelf 16 = .ok (.ireturn, 1) := by decide +kernel
theorem dX3_ghost_0 : decode cX3_ghost 0 = .ok (.iload_n 1, 1) := by decide +kernel
theorem dX3_ghost_1 : decode cX3_ghost 1 = .ok (.invokestatic 98, 3) := by decide +kernel
theorem dX3_ghost_4 : decode cX3_ghost 4 = .ok (.aload_n 0, 1) := by decide +kernel
theorem dX3_ghost_5 : decode cX3_ghost 5 = .ok (.getfield 10, 3) := by decide +kernel
theorem dX3_ghost_8 : decode cX3_ghost 8 = .ok (.iload_n 1, 1) := by decide +kernel
theorem dX3_ghost_9 : decode cX3_ghost 9 = .ok (.invokevirtual 109, 3) := by decide +kernel
theorem dX3_ghost_12 : decode cX3_ghost 12 = .ok (.iload_n 2, 1) := by decide +kernel
theorem dX3_ghost_13 : decode cX3_ghost 13 = .ok (.invokestatic 105, 3) := by decide +kernel
theorem dX3_ghost_16 : decode cX3_ghost 16 = .ok (.ireturn, 1) := by decide +kernel
theorem dX3_count_0 : decode cX3_count 0 = .ok (.iload_n 1, 1) := by decide +kernel
theorem dX3_count_1 : decode cX3_count 1 = .ok (.ifCond .lt 9, 3) := by decide +kernel
theorem dX3_count_4 : decode cX3_count 4 = .ok (.iload_n 1, 1) := by decide +kernel
theorem dX3_count_5 : decode cX3_count 5 = .ok (.bipush 11, 2) := by decide +kernel
theorem dX3_count_7 : decode cX3_count 7 = .ok (.if_icmp .lt 13, 3) := by decide +kernel
theorem dX3_count_10 : decode cX3_count 10 = .ok (.new 90, 3) := by decide +kernel
theorem dX3_count_13 : decode cX3_count 13 = .ok (.dup, 1) := by decide +kernel
theorem dX3_count_14 : decode cX3_count 14 = .ok (.ldc 112, 2) := by decide +kernel
theorem dX3_count_16 : decode cX3_count 16 = .ok (.invokespecial 94, 3) := by decide +kernel
theorem dX3_count_19 : decode cX3_count 19 = .ok (.athrow, 1) := by decide +kernel
theorem dX3_count_20 : decode cX3_count 20 = .ok (.aload_n 0, 1) := by decide +kernel
theorem dX3_count_21 : decode cX3_count 21 = .ok (.getfield 10, 3) := by decide +kernel
theorem dX3_count_24 : decode cX3_count 24 = .ok (.iload_n 1, 1) := by decide +kernel
theorem dX3_count_25 : decode cX3_count 25 = .ok (.invokevirtual 114, 3) := by decide +kernel
theorem dX3_count_28 : decode cX3_count 28 = .ok (.ireturn, 1) := by decide +kernel
theorem dX3_next_0 : decode cX3_next 0 = .ok (.aload_n 0, 1) := by decide +kernel
theorem dX3_next_1 : decode cX3_next 1 = .ok (.getfield 16, 3) := by decide +kernel
theorem dX3_next_4 : decode cX3_next 4 = .ok (.aload_n 0, 1) := by decide +kernel
theorem dX3_next_5 : decode cX3_next 5 = .ok (.getfield 10, 3) := by decide +kernel
theorem dX3_next_8 : decode cX3_next 8 = .ok (.invokevirtual 117, 3) := by decide +kernel
theorem dX3_next_11 : decode cX3_next 11 = .ok (.aload_n 0, 1) := by decide +kernel
theorem dX3_next_12 : decode cX3_next 12 = .ok (.getfield 16, 3) := by decide +kernel
theorem dX3_next_15 : decode cX3_next 15 = .ok (.invokevirtual 121, 3) := by decide +kernel
theorem dX3_next_18 : decode cX3_next 18 = .ok (.ireturn, 1) := by decide +kernel
theorem dX3_mean_0 : decode cX3_mean 0 = .ok (.aload_n 0, 1) := by decide +kernel
theorem dX3_mean_1 : decode cX3_mean 1 = .ok (.getfield 10, 3) := by decide +kernel
theorem dX3_mean_4 : decode cX3_mean 4 = .ok (.invokevirtual 132, 3) := by decide +kernel
theorem dX3_mean_7 : decode cX3_mean 7 = .ok (.istore_n 1, 1) := by decide +kernel
theorem dX3_mean_8 : decode cX3_mean 8 = .ok (.iload_n 1, 1) := by decide +kernel
theorem dX3_mean_9 : decode cX3_mean 9 = .ok (.iconst 1, 1) := by decide +kernel
theorem dX3_mean_10 : decode cX3_mean 10 = .ok (.if_icmp .ge 7, 3) := by decide +kernel
theorem dX3_mean_13 : decode cX3_mean 13 = .ok (.dconst 0, 1) := by decide +kernel
theorem dX3_mean_14 : decode cX3_mean 14 = .ok (.goto 14, 3) := by decide +kernel
theorem dX3_mean_17 : decode cX3_mean 17 = .ok (.aload_n 0, 1) := by decide +kernel
theorem dX3_mean_18 : decode cX3_mean 18 = .ok (.getfield 10, 3) := by decide +kernel
theorem dX3_mean_21 : decode cX3_mean 21 = .ok (.invokevirtual 135, 3) := by decide +kernel
theorem dX3_mean_24 : decode cX3_mean 24 = .ok (.i2d, 1) := by decide +kernel
theorem dX3_mean_25 : decode cX3_mean 25 = .ok (.iload_n 1, 1) := by decide +kernel
theorem dX3_mean_26 : decode cX3_mean 26 = .ok (.i2d, 1) := by decide +kernel
theorem dX3_mean_27 : decode cX3_mean 27 = .ok (.ddiv, 1) := by decide +kernel
theorem dX3_mean_28 : decode cX3_mean 28 = .ok (.dreturn, 1) := by decide +kernel
theorem dX3_requireKind_0 : decode cX3_requireKind 0 = .ok (.iload_n 0, 1) := by decide +kernel
theorem dX3_requireKind_1 : decode cX3_requireKind 1 = .ok (.ifCond .lt 9, 3) := by decide +kernel
theorem dX3_requireKind_4 : decode cX3_requireKind 4 = .ok (.iload_n 0, 1) := by decide +kernel
theorem dX3_requireKind_5 : decode cX3_requireKind 5 = .ok (.bipush 40, 2) := by decide +kernel
theorem dX3_requireKind_7 : decode cX3_requireKind 7 = .ok (.if_icmp .lt 13, 3) := by decide +kernel
theorem dX3_requireKind_10 : decode cX3_requireKind 10 = .ok (.new 90, 3) := by decide +kernel
theorem dX3_requireKind_13 : decode cX3_requireKind 13 = .ok (.dup, 1) := by decide +kernel
theorem dX3_requireKind_14 : decode cX3_requireKind 14 = .ok (.ldc 152, 2) := by decide +kernel
theorem dX3_requireKind_16 : decode cX3_requireKind 16 = .ok (.invokespecial 94, 3) := by decide +kernel
theorem dX3_requireKind_19 : decode cX3_requireKind 19 = .ok (.athrow, 1) := by decide +kernel
theorem dX3_requireKind_20 : decode cX3_requireKind 20 = .ok (.return_, 1) := by decide +kernel
theorem dX3_requireSeries_0 : decode cX3_requireSeries 0 = .ok (.iload_n 0, 1) := by decide +kernel
theorem dX3_requireSeries_1 : decode cX3_requireSeries 1 = .ok (.invokestatic 19, 3) := by decide +kernel
theorem dX3_requireSeries_4 : decode cX3_requireSeries 4 = .ok (.iload_n 1, 1) := by decide +kernel
theorem dX3_requireSeries_5 : decode cX3_requireSeries 5 = .ok (.ifCond .lt 9, 3) := by decide +kernel
theorem dX3_requireSeries_8 : decode cX3_requireSeries 8 = .ok (.iload_n 1, 1) := by decide +kernel
theorem dX3_requireSeries_9 : decode cX3_requireSeries 9 = .ok (.bipush 40, 2) := by decide +kernel
theorem dX3_requireSeries_11 : decode cX3_requireSeries 11 = .ok (.if_icmp .lt 13, 3) := by decide +kernel
theorem dX3_requireSeries_14 : decode cX3_requireSeries 14 = .ok (.new 67, 3) := by decide +kernel
theorem dX3_requireSeries_17 : decode cX3_requireSeries 17 = .ok (.dup, 1) := by decide +kernel
theorem dX3_requireSeries_18 : decode cX3_requireSeries 18 = .ok (.ldc 154, 2) := by decide +kernel
theorem dX3_requireSeries_20 : decode cX3_requireSeries 20 = .ok (.invokespecial 71, 3) := by decide +kernel
theorem dX3_requireSeries_23 : decode cX3_requireSeries 23 = .ok (.athrow, 1) := by decide +kernel
theorem dX3_requireSeries_24 : decode cX3_requireSeries 24 = .ok (.iload_n 2, 1) := by decide +kernel
theorem dX3_requireSeries_25 : decode cX3_requireSeries 25 = .ok (.iconst 1, 1) := by decide +kernel
theorem dX3_requireSeries_26 : decode cX3_requireSeries 26 = .ok (.if_icmp .lt 9, 3) := by decide +kernel
theorem dX3_requireSeries_29 : decode cX3_requireSeries 29 = .ok (.iload_n 2, 1) := by decide +kernel
theorem dX3_requireSeries_30 : decode cX3_requireSeries 30 = .ok (.bipush 30, 2) := by decide +kernel
theorem dX3_requireSeries_32 : decode cX3_requireSeries 32 = .ok (.if_icmp .le 13, 3) := by decide +kernel
theorem dX3_requireSeries_35 : decode cX3_requireSeries 35 = .ok (.new 67, 3) := by decide +kernel
theorem dX3_requireSeries_38 : decode cX3_requireSeries 38 = .ok (.dup, 1) := by decide +kernel
theorem dX3_requireSeries_39 : decode cX3_requireSeries 39 = .ok (.ldc 156, 2) := by decide +kernel
theorem dX3_requireSeries_41 : decode cX3_requireSeries 41 = .ok (.invokespecial 71, 3) := by decide +kernel
theorem dX3_requireSeries_44 : decode cX3_requireSeries 44 = .ok (.athrow, 1) := by decide +kernel
theorem dX3_requireSeries_45 : decode cX3_requireSeries 45 = .ok (.return_, 1) := by decide +kernel
theorem dX3_requireShelf_0 : decode cX3_requireShelf 0 = .ok (.iload_n 0, 1) := by decide +kernel
theorem dX3_requireShelf_1 : decode cX3_requireShelf 1 = .ok (.ifCond .eq 18, 3) := by decide +kernel
theorem dX3_requireShelf_4 : decode cX3_requireShelf 4 = .ok (.iload_n 0, 1) := by decide +kernel
theorem dX3_requireShelf_5 : decode cX3_requireShelf 5 = .ok (.iconst 1, 1) := by decide +kernel
theorem dX3_requireShelf_6 : decode cX3_requireShelf 6 = .ok (.if_icmp .eq 13, 3) := by decide +kernel
theorem dX3_requireShelf_9 : decode cX3_requireShelf 9 = .ok (.new 90, 3) := by decide +kernel
theorem dX3_requireShelf_12 : decode cX3_requireShelf 12 = .ok (.dup, 1) := by decide +kernel
theorem dX3_requireShelf_13 : decode cX3_requireShelf 13 = .ok (.ldc 158, 2) := by decide +kernel
theorem dX3_requireShelf_15 : decode cX3_requireShelf 15 = .ok (.invokespecial 94, 3) := by decide +kernel
theorem dX3_requireShelf_18 : decode cX3_requireShelf 18 = .ok (.athrow, 1) := by decide +kernel
theorem dX3_requireShelf_19 : decode cX3_requireShelf 19 = .ok (.return_, 1) := by decide +kernel
theorem dX3_requireAt_0 : decode cX3_requireAt 0 = .ok (.aload_n 0, 1) := by decide +kernel
theorem dX3_requireAt_1 : decode cX3_requireAt 1 = .ok (.iload_n 1, 1) := by decide +kernel
theorem dX3_requireAt_2 : decode cX3_requireAt 2 = .ok (.invokevirtual 160, 3) := by decide +kernel
theorem dX3_requireAt_5 : decode cX3_requireAt 5 = .ok (.istore_n 2, 1) := by decide +kernel
theorem dX3_requireAt_6 : decode cX3_requireAt 6 = .ok (.iload_n 2, 1) := by decide +kernel
theorem dX3_requireAt_7 : decode cX3_requireAt 7 = .ok (.iconst (-1), 1) := by decide +kernel
theorem dX3_requireAt_8 : decode cX3_requireAt 8 = .ok (.if_icmp .ne 13, 3) := by decide +kernel
theorem dX3_requireAt_11 : decode cX3_requireAt 11 = .ok (.new 90, 3) := by decide +kernel
theorem dX3_requireAt_14 : decode cX3_requireAt 14 = .ok (.dup, 1) := by decide +kernel
theorem dX3_requireAt_15 : decode cX3_requireAt 15 = .ok (.ldc 163, 2) := by decide +kernel
theorem dX3_requireAt_17 : decode cX3_requireAt 17 = .ok (.invokespecial 94, 3) := by decide +kernel
theorem dX3_requireAt_20 : decode cX3_requireAt 20 = .ok (.athrow, 1) := by decide +kernel
theorem dX3_requireAt_21 : decode cX3_requireAt 21 = .ok (.iload_n 2, 1) := by decide +kernel
theorem dX3_requireAt_22 : decode cX3_requireAt 22 = .ok (.ireturn, 1) := by decide +kernel
theorem dX3_requireJar_0 : decode cX3_requireJar 0 = .ok (.aload_n 0, 1) := by decide +kernel
theorem dX3_requireJar_1 : decode cX3_requireJar 1 = .ok (.getfield 10, 3) := by decide +kernel
theorem dX3_requireJar_4 : decode cX3_requireJar 4 = .ok (.iload_n 1, 1) := by decide +kernel
theorem dX3_requireJar_5 : decode cX3_requireJar 5 = .ok (.invokevirtual 165, 3) := by decide +kernel
theorem dX3_requireJar_8 : decode cX3_requireJar 8 = .ok (.ifCond .ne 13, 3) := by decide +kernel
theorem dX3_requireJar_11 : decode cX3_requireJar 11 = .ok (.new 27, 3) := by decide +kernel
theorem dX3_requireJar_14 : decode cX3_requireJar 14 = .ok (.dup, 1) := by decide +kernel
theorem dX3_requireJar_15 : decode cX3_requireJar 15 = .ok (.ldc 169, 2) := by decide +kernel
theorem dX3_requireJar_17 : decode cX3_requireJar 17 = .ok (.invokespecial 31, 3) := by decide +kernel
theorem dX3_requireJar_20 : decode cX3_requireJar 20 = .ok (.athrow, 1) := by decide +kernel
theorem dX3_requireJar_21 : decode cX3_requireJar 21 = .ok (.return_, 1) := by decide +kernel
theorem dX4_init_0 : decode cX4_init 0 = .ok (.aload_n 0, 1) := by decide +kernel
theorem dX4_init_1 : decode cX4_init 1 = .ok (.invokespecial 1, 3) := by decide +kernel
theorem dX4_init_4 : decode cX4_init 4 = .ok (.aload_n 0, 1) := by decide +kernel
theorem dX4_init_5 : decode cX4_init 5 = .ok (.iconst 1, 1) := by decide +kernel
theorem dX4_init_6 : decode cX4_init 6 = .ok (.putfield 7, 3) := by decide +kernel
theorem dX4_init_9 : decode cX4_init 9 = .ok (.aload_n 0, 1) := by decide +kernel
theorem dX4_init_10 : decode cX4_init 10 = .ok (.iload_n 1, 1) := by decide +kernel
theorem dX4_init_11 : decode cX4_init 11 = .ok (.putfield 13, 3) := by decide +kernel
theorem dX4_init_14 : decode cX4_init 14 = .ok (.return_, 1) := by decide +kernel
theorem dX5_init_0 : decode cX5_init 0 = .ok (.aload_n 0, 1) := by decide +kernel
theorem dX5_init_1 : decode cX5_init 1 = .ok (.invokespecial 1, 3) := by decide +kernel
theorem dX5_init_4 : decode cX5_init 4 = .ok (.aload_n 0, 1) := by decide +kernel
theorem dX5_init_5 : decode cX5_init 5 = .ok (.bipush 6, 2) := by decide +kernel
theorem dX5_init_7 : decode cX5_init 7 = .ok (.putfield 7, 3) := by decide +kernel
theorem dX5_init_10 : decode cX5_init 10 = .ok (.aload_n 0, 1) := by decide +kernel
theorem dX5_init_11 : decode cX5_init 11 = .ok (.iconst 2, 1) := by decide +kernel
theorem dX5_init_12 : decode cX5_init 12 = .ok (.anewarray 13, 3) := by decide +kernel
theorem dX5_init_15 : decode cX5_init 15 = .ok (.dup, 1) := by decide +kernel
theorem dX5_init_16 : decode cX5_init 16 = .ok (.iconst 0, 1) := by decide +kernel
theorem dX5_init_17 : decode cX5_init 17 = .ok (.iconst 0, 1) := by decide +kernel
theorem dX5_init_18 : decode cX5_init 18 = .ok (.anewarray 15, 3) := by decide +kernel
theorem dX5_init_21 : decode cX5_init 21 = .ok (.aastore, 1) := by decide +kernel
theorem dX5_init_22 : decode cX5_init 22 = .ok (.dup, 1) := by decide +kernel
theorem dX5_init_23 : decode cX5_init 23 = .ok (.iconst 1, 1) := by decide +kernel
theorem dX5_init_24 : decode cX5_init 24 = .ok (.iconst 0, 1) := by decide +kernel
theorem dX5_init_25 : decode cX5_init 25 = .ok (.anewarray 15, 3) := by decide +kernel
theorem dX5_init_28 : decode cX5_init 28 = .ok (.aastore, 1) := by decide +kernel
theorem dX5_init_29 : decode cX5_init 29 = .ok (.putfield 17, 3) := by decide +kernel
theorem dX5_init_32 : decode cX5_init 32 = .ok (.aload_n 0, 1) := by decide +kernel
theorem dX5_init_33 : decode cX5_init 33 = .ok (.iconst 2, 1) := by decide +kernel
theorem dX5_init_34 : decode cX5_init 34 = .ok (.anewarray 21, 3) := by decide +kernel
theorem dX5_init_37 : decode cX5_init 37 = .ok (.dup, 1) := by decide +kernel
theorem dX5_init_38 : decode cX5_init 38 = .ok (.iconst 0, 1) := by decide +kernel
theorem dX5_init_39 : decode cX5_init 39 = .ok (.iconst 0, 1) := by decide +kernel
theorem dX5_init_40 : decode cX5_init 40 = .ok (.newarray .int, 2) := by decide +kernel
theorem dX5_init_42 : decode cX5_init 42 = .ok (.aastore, 1) := by decide +kernel
theorem dX5_init_43 : decode cX5_init 43 = .ok (.dup, 1) := by decide +kernel
theorem dX5_init_44 : decode cX5_init 44 = .ok (.iconst 1, 1) := by decide +kernel
theorem dX5_init_45 : decode cX5_init 45 = .ok (.iconst 0, 1) := by decide +kernel
theorem dX5_init_46 : decode cX5_init 46 = .ok (.newarray .int, 2) := by decide +kernel
theorem dX5_init_48 : decode cX5_init 48 = .ok (.aastore, 1) := by decide +kernel
theorem dX5_init_49 : decode cX5_init 49 = .ok (.putfield 23, 3) := by decide +kernel
theorem dX5_init_52 : decode cX5_init 52 = .ok (.return_, 1) := by decide +kernel
theorem dX5_all_0 : decode cX5_all 0 = .ok (.aload_n 0, 1) := by decide +kernel
theorem dX5_all_1 : decode cX5_all 1 = .ok (.getfield 17, 3) := by decide +kernel
theorem dX5_all_4 : decode cX5_all 4 = .ok (.iconst 0, 1) := by decide +kernel
theorem dX5_all_5 : decode cX5_all 5 = .ok (.aaload, 1) := by decide +kernel
theorem dX5_all_6 : decode cX5_all 6 = .ok (.arraylength, 1) := by decide +kernel
theorem dX5_all_7 : decode cX5_all 7 = .ok (.aload_n 0, 1) := by decide +kernel
theorem dX5_all_8 : decode cX5_all 8 = .ok (.getfield 17, 3) := by decide +kernel
theorem dX5_all_11 : decode cX5_all 11 = .ok (.iconst 1, 1) := by decide +kernel
theorem dX5_all_12 : decode cX5_all 12 = .ok (.aaload, 1) := by decide +kernel
theorem dX5_all_13 : decode cX5_all 13 = .ok (.arraylength, 1) := by decide +kernel
theorem dX5_all_14 : decode cX5_all 14 = .ok (.iadd, 1) := by decide +kernel
theorem dX5_all_15 : decode cX5_all 15 = .ok (.ireturn, 1) := by decide +kernel
theorem dX5_pinned_0 : decode cX5_pinned 0 = .ok (.iconst 0, 1) := by decide +kernel
theorem dX5_pinned_1 : decode cX5_pinned 1 = .ok (.istore_n 1, 1) := by decide +kernel
theorem dX5_pinned_2 : decode cX5_pinned 2 = .ok (.aload_n 0, 1) := by decide +kernel
theorem dX5_pinned_3 : decode cX5_pinned 3 = .ok (.getfield 17, 3) := by decide +kernel
theorem dX5_pinned_6 : decode cX5_pinned 6 = .ok (.astore_n 2, 1) := by decide +kernel
theorem dX5_pinned_7 : decode cX5_pinned 7 = .ok (.aload_n 2, 1) := by decide +kernel
theorem dX5_pinned_8 : decode cX5_pinned 8 = .ok (.arraylength, 1) := by decide +kernel
theorem dX5_pinned_9 : decode cX5_pinned 9 = .ok (.istore_n 3, 1) := by decide +kernel
theorem dX5_pinned_10 : decode cX5_pinned 10 = .ok (.iconst 0, 1) := by decide +kernel
theorem dX5_pinned_11 : decode cX5_pinned 11 = .ok (.istore 4, 2) := by decide +kernel
theorem dX5_pinned_13 : decode cX5_pinned 13 = .ok (.iload 4, 2) := by decide +kernel
theorem dX5_pinned_15 : decode cX5_pinned 15 = .ok (.iload_n 3, 1) := by decide +kernel
theorem dX5_pinned_16 : decode cX5_pinned 16 = .ok (.if_icmp .ge 63, 3) := by decide +kernel
theorem dX5_pinned_19 : decode cX5_pinned 19 = .ok (.aload_n 2, 1) := by decide +kernel
theorem dX5_pinned_20 : decode cX5_pinned 20 = .ok (.iload 4, 2) := by decide +kernel
theorem dX5_pinned_22 : decode cX5_pinned 22 = .ok (.aaload, 1) := by decide +kernel
theorem dX5_pinned_23 : decode cX5_pinned 23 = .ok (.astore 5, 2) := by decide +kernel
theorem dX5_pinned_25 : decode cX5_pinned 25 = .ok (.aload 5, 2) := by decide +kernel
theorem dX5_pinned_27 : decode cX5_pinned 27 = .ok (.astore 6, 2) := by decide +kernel
theorem dX5_pinned_29 : decode cX5_pinned 29 = .ok (.aload 6, 2) := by decide +kernel
theorem dX5_pinned_31 : decode cX5_pinned 31 = .ok (.arraylength, 1) := by decide +kernel
theorem dX5_pinned_32 : decode cX5_pinned 32 = .ok (.istore 7, 2) := by decide +kernel
theorem dX5_pinned_34 : decode cX5_pinned 34 = .ok (.iconst 0, 1) := by decide +kernel
theorem dX5_pinned_35 : decode cX5_pinned 35 = .ok (.istore 8, 2) := by decide +kernel
theorem dX5_pinned_37 : decode cX5_pinned 37 = .ok (.iload 8, 2) := by decide +kernel
theorem dX5_pinned_39 : decode cX5_pinned 39 = .ok (.iload 7, 2) := by decide +kernel
theorem dX5_pinned_41 : decode cX5_pinned 41 = .ok (.if_icmp .ge 32, 3) := by decide +kernel
theorem dX5_pinned_44 : decode cX5_pinned 44 = .ok (.aload 6, 2) := by decide +kernel
theorem dX5_pinned_46 : decode cX5_pinned 46 = .ok (.iload 8, 2) := by decide +kernel
theorem dX5_pinned_48 : decode cX5_pinned 48 = .ok (.aaload, 1) := by decide +kernel
theorem dX5_pinned_49 : decode cX5_pinned 49 = .ok (.astore 9, 2) := by decide +kernel
theorem dX5_pinned_51 : decode cX5_pinned 51 = .ok (.iload_n 1, 1) := by decide +kernel
theorem dX5_pinned_52 : decode cX5_pinned 52 = .ok (.aload 9, 2) := by decide +kernel
theorem dX5_pinned_54 : decode cX5_pinned 54 = .ok (.getfield 47, 3) := by decide +kernel
theorem dX5_pinned_57 : decode cX5_pinned 57 = .ok (.ifCond .le 7, 3) := by decide +kernel
theorem dX5_pinned_60 : decode cX5_pinned 60 = .ok (.iconst 1, 1) := by decide +kernel
theorem dX5_pinned_61 : decode cX5_pinned 61 = .ok (.goto 4, 3) := by decide +kernel
theorem dX5_pinned_64 : decode cX5_pinned 64 = .ok (.iconst 0, 1) := by decide +kernel
theorem dX5_pinned_65 : decode cX5_pinned 65 = .ok (.iadd, 1) := by decide +kernel
theorem dX5_pinned_66 : decode cX5_pinned 66 = .ok (.istore_n 1, 1) := by decide +kernel
theorem dX5_pinned_67 : decode cX5_pinned 67 = .ok (.iinc 8 1, 3) := by decide +kernel
theorem dX5_pinned_70 : decode cX5_pinned 70 = .ok (.goto (-33), 3) := by decide +kernel
theorem dX5_pinned_73 : decode cX5_pinned 73 = .ok (.iinc 4 1, 3) := by decide +kernel
theorem dX5_pinned_76 : decode cX5_pinned 76 = .ok (.goto (-63), 3) := by decide +kernel
theorem dX5_pinned_79 : decode cX5_pinned 79 = .ok (.iload_n 1, 1) := by decide +kernel
theorem dX5_pinned_80 : decode cX5_pinned 80 = .ok (.ireturn, 1) := by decide +kernel
theorem dX5_free_0 : decode cX5_free 0 = .ok (.iconst 0, 1) := by decide +kernel
theorem dX5_free_1 : decode cX5_free 1 = .ok (.istore_n 2, 1) := by decide +kernel
theorem dX5_free_2 : decode cX5_free 2 = .ok (.aload_n 0, 1) := by decide +kernel
theorem dX5_free_3 : decode cX5_free 3 = .ok (.getfield 17, 3) := by decide +kernel
theorem dX5_free_6 : decode cX5_free 6 = .ok (.iload_n 1, 1) := by decide +kernel
theorem dX5_free_7 : decode cX5_free 7 = .ok (.aaload, 1) := by decide +kernel
theorem dX5_free_8 : decode cX5_free 8 = .ok (.astore_n 3, 1) := by decide +kernel
theorem dX5_free_9 : decode cX5_free 9 = .ok (.aload_n 3, 1) := by decide +kernel
theorem dX5_free_10 : decode cX5_free 10 = .ok (.arraylength, 1) := by decide +kernel
theorem dX5_free_11 : decode cX5_free 11 = .ok (.istore 4, 2) := by decide +kernel
theorem dX5_free_13 : decode cX5_free 13 = .ok (.iconst 0, 1) := by decide +kernel
theorem dX5_free_14 : decode cX5_free 14 = .ok (.istore 5, 2) := by decide +kernel
theorem dX5_free_16 : decode cX5_free 16 = .ok (.iload 5, 2) := by decide +kernel
theorem dX5_free_18 : decode cX5_free 18 = .ok (.iload 4, 2) := by decide +kernel
theorem dX5_free_20 : decode cX5_free 20 = .ok (.if_icmp .ge 31, 3) := by decide +kernel
theorem dX5_free_23 : decode cX5_free 23 = .ok (.aload_n 3, 1) := by decide +kernel
theorem dX5_free_24 : decode cX5_free 24 = .ok (.iload 5, 2) := by decide +kernel
theorem dX5_free_26 : decode cX5_free 26 = .ok (.aaload, 1) := by decide +kernel
theorem dX5_free_27 : decode cX5_free 27 = .ok (.astore 6, 2) := by decide +kernel
theorem dX5_free_29 : decode cX5_free 29 = .ok (.iload_n 2, 1) := by decide +kernel
theorem dX5_free_30 : decode cX5_free 30 = .ok (.aload 6, 2) := by decide +kernel
theorem dX5_free_32 : decode cX5_free 32 = .ok (.getfield 47, 3) := by decide +kernel
theorem dX5_free_35 : decode cX5_free 35 = .ok (.ifCond .ne 7, 3) := by decide +kernel
theorem dX5_free_38 : decode cX5_free 38 = .ok (.iconst 1, 1) := by decide +kernel
theorem dX5_free_39 : decode cX5_free 39 = .ok (.goto 4, 3) := by decide +kernel
theorem dX5_free_42 : decode cX5_free 42 = .ok (.iconst 0, 1) := by decide +kernel
theorem dX5_free_43 : decode cX5_free 43 = .ok (.iadd, 1) := by decide +kernel
theorem dX5_free_44 : decode cX5_free 44 = .ok (.istore_n 2, 1) := by decide +kernel
theorem dX5_free_45 : decode cX5_free 45 = .ok (.iinc 5 1, 3) := by decide +kernel
theorem dX5_free_48 : decode cX5_free 48 = .ok (.goto (-32), 3) := by decide +kernel
theorem dX5_free_51 : decode cX5_free 51 = .ok (.iload_n 2, 1) := by decide +kernel
theorem dX5_free_52 : decode cX5_free 52 = .ok (.ireturn, 1) := by decide +kernel
theorem dX5_find_0 : decode cX5_find 0 = .ok (.aload_n 0, 1) := by decide +kernel
theorem dX5_find_1 : decode cX5_find 1 = .ok (.getfield 17, 3) := by decide +kernel
theorem dX5_find_4 : decode cX5_find 4 = .ok (.astore_n 2, 1) := by decide +kernel
theorem dX5_find_5 : decode cX5_find 5 = .ok (.aload_n 2, 1) := by decide +kernel
theorem dX5_find_6 : decode cX5_find 6 = .ok (.arraylength, 1) := by decide +kernel
theorem dX5_find_7 : decode cX5_find 7 = .ok (.istore_n 3, 1) := by decide +kernel
theorem dX5_find_8 : decode cX5_find 8 = .ok (.iconst 0, 1) := by decide +kernel
theorem dX5_find_9 : decode cX5_find 9 = .ok (.istore 4, 2) := by decide +kernel
theorem dX5_find_11 : decode cX5_find 11 = .ok (.iload 4, 2) := by decide +kernel
theorem dX5_find_13 : decode cX5_find 13 = .ok (.iload_n 3, 1) := by decide +kernel
theorem dX5_find_14 : decode cX5_find 14 = .ok (.if_icmp .ge 59, 3) := by decide +kernel
theorem dX5_find_17 : decode cX5_find 17 = .ok (.aload_n 2, 1) := by decide +kernel
theorem dX5_find_18 : decode cX5_find 18 = .ok (.iload 4, 2) := by decide +kernel
theorem dX5_find_20 : decode cX5_find 20 = .ok (.aaload, 1) := by decide +kernel
theorem dX5_find_21 : decode cX5_find 21 = .ok (.astore 5, 2) := by decide +kernel
theorem dX5_find_23 : decode cX5_find 23 = .ok (.aload 5, 2) := by decide +kernel
theorem dX5_find_25 : decode cX5_find 25 = .ok (.astore 6, 2) := by decide +kernel
theorem dX5_find_27 : decode cX5_find 27 = .ok (.aload 6, 2) := by decide +kernel
theorem dX5_find_29 : decode cX5_find 29 = .ok (.arraylength, 1) := by decide +kernel
theorem dX5_find_30 : decode cX5_find 30 = .ok (.istore 7, 2) := by decide +kernel
theorem dX5_find_32 : decode cX5_find 32 = .ok (.iconst 0, 1) := by decide +kernel
theorem dX5_find_33 : decode cX5_find 33 = .ok (.istore 8, 2) := by decide +kernel
theorem dX5_find_35 : decode cX5_find 35 = .ok (.iload 8, 2) := by decide +kernel
theorem dX5_find_37 : decode cX5_find 37 = .ok (.iload 7, 2) := by decide +kernel
theorem dX5_find_39 : decode cX5_find 39 = .ok (.if_icmp .ge 28, 3) := by decide +kernel
theorem dX5_find_42 : decode cX5_find 42 = .ok (.aload 6, 2) := by decide +kernel
theorem dX5_find_44 : decode cX5_find 44 = .ok (.iload 8, 2) := by decide +kernel
theorem dX5_find_46 : decode cX5_find 46 = .ok (.aaload, 1) := by decide +kernel
theorem dX5_find_47 : decode cX5_find 47 = .ok (.astore 9, 2) := by decide +kernel
theorem dX5_find_49 : decode cX5_find 49 = .ok (.aload 9, 2) := by decide +kernel
theorem dX5_find_51 : decode cX5_find 51 = .ok (.getfield 50, 3) := by decide +kernel
theorem dX5_find_54 : decode cX5_find 54 = .ok (.iload_n 1, 1) := by decide +kernel
theorem dX5_find_55 : decode cX5_find 55 = .ok (.if_icmp .ne 6, 3) := by decide +kernel
theorem dX5_find_58 : decode cX5_find 58 = .ok (.aload 9, 2) := by decide +kernel
theorem dX5_find_60 : decode cX5_find 60 = .ok (.areturn, 1) := by decide +kernel
theorem dX5_find_61 : decode cX5_find 61 = .ok (.iinc 8 1, 3) := by decide +kernel
theorem dX5_find_64 : decode cX5_find 64 = .ok (.goto (-29), 3) := by decide +kernel
theorem dX5_find_67 : decode cX5_find 67 = .ok (.iinc 4 1, 3) := by decide +kernel
theorem dX5_find_70 : decode cX5_find 70 = .ok (.goto (-59), 3) := by decide +kernel
theorem dX5_find_73 : decode cX5_find 73 = .ok (.aconst_null, 1) := by decide +kernel
theorem dX5_find_74 : decode cX5_find 74 = .ok (.areturn, 1) := by decide +kernel
theorem dX5_list_0 : decode cX5_list 0 = .ok (.iconst 0, 1) := by decide +kernel
theorem dX5_list_1 : decode cX5_list 1 = .ok (.istore_n 2, 1) := by decide +kernel
theorem dX5_list_2 : decode cX5_list 2 = .ok (.iload_n 2, 1) := by decide +kernel
theorem dX5_list_3 : decode cX5_list 3 = .ok (.iconst 2, 1) := by decide +kernel
theorem dX5_list_4 : decode cX5_list 4 = .ok (.if_icmp .ge 52, 3) := by decide +kernel
theorem dX5_list_7 : decode cX5_list 7 = .ok (.iconst 0, 1) := by decide +kernel
theorem dX5_list_8 : decode cX5_list 8 = .ok (.istore_n 3, 1) := by decide +kernel
theorem dX5_list_9 : decode cX5_list 9 = .ok (.iload_n 3, 1) := by decide +kernel
theorem dX5_list_10 : decode cX5_list 10 = .ok (.aload_n 0, 1) := by decide +kernel
theorem dX5_list_11 : decode cX5_list 11 = .ok (.getfield 23, 3) := by decide +kernel
theorem dX5_list_14 : decode cX5_list 14 = .ok (.iload_n 2, 1) := by decide +kernel
theorem dX5_list_15 : decode cX5_list 15 = .ok (.aaload, 1) := by decide +kernel
theorem dX5_list_16 : decode cX5_list 16 = .ok (.arraylength, 1) := by decide +kernel
theorem dX5_list_17 : decode cX5_list 17 = .ok (.if_icmp .ge 33, 3) := by decide +kernel
theorem dX5_list_20 : decode cX5_list 20 = .ok (.aload_n 0, 1) := by decide +kernel
theorem dX5_list_21 : decode cX5_list 21 = .ok (.getfield 23, 3) := by decide +kernel
theorem dX5_list_24 : decode cX5_list 24 = .ok (.iload_n 2, 1) := by decide +kernel
theorem dX5_list_25 : decode cX5_list 25 = .ok (.aaload, 1) := by decide +kernel
theorem dX5_list_26 : decode cX5_list 26 = .ok (.iload_n 3, 1) := by decide +kernel
theorem dX5_list_27 : decode cX5_list 27 = .ok (.iaload, 1) := by decide +kernel
theorem dX5_list_28 : decode cX5_list 28 = .ok (.iload_n 1, 1) := by decide +kernel
theorem dX5_list_29 : decode cX5_list 29 = .ok (.if_icmp .ne 15, 3) := by decide +kernel
theorem dX5_list_32 : decode cX5_list 32 = .ok (.iconst 2, 1) := by decide +kernel
theorem dX5_list_33 : decode cX5_list 33 = .ok (.newarray .int, 2) := by decide +kernel
theorem dX5_list_35 : decode cX5_list 35 = .ok (.dup, 1) := by decide +kernel
theorem dX5_list_36 : decode cX5_list 36 = .ok (.iconst 0, 1) := by decide +kernel
theorem dX5_list_37 : decode cX5_list 37 = .ok (.iload_n 2, 1) := by decide +kernel
theorem dX5_list_38 : decode cX5_list 38 = .ok (.iastore, 1) := by decide +kernel
theorem dX5_list_39 : decode cX5_list 39 = .ok (.dup, 1) := by decide +kernel
theorem dX5_list_40 : decode cX5_list 40 = .ok (.iconst 1, 1) := by decide +kernel
theorem dX5_list_41 : decode cX5_list 41 = .ok (.iload_n 3, 1) := by decide +kernel
theorem dX5_list_42 : decode cX5_list 42 = .ok (.iastore, 1) := by decide +kernel
theorem dX5_list_43 : decode cX5_list 43 = .ok (.areturn, 1) := by decide +kernel
theorem dX5_list_44 : decode cX5_list 44 = .ok (.iinc 3 1, 3) := by decide +kernel
theorem dX5_list_47 : decode cX5_list 47 = .ok (.goto (-38), 3) := by decide +kernel
theorem dX5_list_50 : decode cX5_list 50 = .ok (.iinc 2 1, 3) := by decide +kernel
theorem dX5_list_53 : decode cX5_list 53 = .ok (.goto (-51), 3) := by decide +kernel
theorem dX5_list_56 : decode cX5_list 56 = .ok (.aconst_null, 1) := by decide +kernel
theorem dX5_list_57 : decode cX5_list 57 = .ok (.areturn, 1) := by decide +kernel
theorem dX5_sweep_0 : decode cX5_sweep 0 = .ok (.aload_n 0, 1) := by decide +kernel
theorem dX5_sweep_1 : decode cX5_sweep 1 = .ok (.getfield 28, 3) := by decide +kernel
theorem dX5_sweep_4 : decode cX5_sweep 4 = .ok (.iconst 1, 1) := by decide +kernel
theorem dX5_sweep_5 : decode cX5_sweep 5 = .ok (.if_icmp .le 10, 3) := by decide +kernel
theorem dX5_sweep_8 : decode cX5_sweep 8 = .ok (.aload_n 0, 1) := by decide +kernel
theorem dX5_sweep_9 : decode cX5_sweep 9 = .ok (.getfield 28, 3) := by decide +kernel
theorem dX5_sweep_12 : decode cX5_sweep 12 = .ok (.goto 4, 3) := by decide +kernel
theorem dX5_sweep_15 : decode cX5_sweep 15 = .ok (.iconst 1, 1) := by decide +kernel
theorem dX5_sweep_16 : decode cX5_sweep 16 = .ok (.istore_n 1, 1) := by decide +kernel
theorem dX5_sweep_17 : decode cX5_sweep 17 = .ok (.aload_n 0, 1) := by decide +kernel
theorem dX5_sweep_18 : decode cX5_sweep 18 = .ok (.iconst 0, 1) := by decide +kernel
theorem dX5_sweep_19 : decode cX5_sweep 19 = .ok (.invokevirtual 53, 3) := by decide +kernel
theorem dX5_sweep_22 : decode cX5_sweep 22 = .ok (.ifCond .le 26, 3) := by decide +kernel
theorem dX5_sweep_25 : decode cX5_sweep 25 = .ok (.aload_n 0, 1) := by decide +kernel
theorem dX5_sweep_26 : decode cX5_sweep 26 = .ok (.getfield 17, 3) := by decide +kernel
theorem dX5_sweep_29 : decode cX5_sweep 29 = .ok (.iconst 0, 1) := by decide +kernel
theorem dX5_sweep_30 : decode cX5_sweep 30 = .ok (.aaload, 1) := by decide +kernel
theorem dX5_sweep_31 : decode cX5_sweep 31 = .ok (.arraylength, 1) := by decide +kernel
theorem dX5_sweep_32 : decode cX5_sweep 32 = .ok (.iload_n 1, 1) := by decide +kernel
theorem dX5_sweep_33 : decode cX5_sweep 33 = .ok (.if_icmp .ge 11, 3) := by decide +kernel
theorem dX5_sweep_36 : decode cX5_sweep 36 = .ok (.aload_n 0, 1) := by decide +kernel
theorem dX5_sweep_37 : decode cX5_sweep 37 = .ok (.iconst 1, 1) := by decide +kernel
theorem dX5_sweep_38 : decode cX5_sweep 38 = .ok (.invokevirtual 53, 3) := by decide +kernel
theorem dX5_sweep_41 : decode cX5_sweep 41 = .ok (.ifCond .ne 7, 3) := by decide +kernel
theorem dX5_sweep_44 : decode cX5_sweep 44 = .ok (.iconst 0, 1) := by decide +kernel
theorem dX5_sweep_45 : decode cX5_sweep 45 = .ok (.goto 4, 3) := by decide +kernel
theorem dX5_sweep_48 : decode cX5_sweep 48 = .ok (.iconst 1, 1) := by decide +kernel
theorem dX5_sweep_49 : decode cX5_sweep 49 = .ok (.istore_n 2, 1) := by decide +kernel
theorem dX5_sweep_50 : decode cX5_sweep 50 = .ok (.aload_n 0, 1) := by decide +kernel
theorem dX5_sweep_51 : decode cX5_sweep 51 = .ok (.getfield 17, 3) := by decide +kernel
theorem dX5_sweep_54 : decode cX5_sweep 54 = .ok (.iload_n 2, 1) := by decide +kernel
theorem dX5_sweep_55 : decode cX5_sweep 55 = .ok (.aaload, 1) := by decide +kernel
theorem dX5_sweep_56 : decode cX5_sweep 56 = .ok (.iconst 0, 1) := by decide +kernel
theorem dX5_sweep_57 : decode cX5_sweep 57 = .ok (.aaload, 1) := by decide +kernel
theorem dX5_sweep_58 : decode cX5_sweep 58 = .ok (.astore_n 3, 1) := by decide +kernel
theorem dX5_sweep_59 : decode cX5_sweep 59 = .ok (.aload_n 0, 1) := by decide +kernel
theorem dX5_sweep_60 : decode cX5_sweep 60 = .ok (.getfield 17, 3) := by decide +kernel
theorem dX5_sweep_63 : decode cX5_sweep 63 = .ok (.iload_n 2, 1) := by decide +kernel
theorem dX5_sweep_64 : decode cX5_sweep 64 = .ok (.aload_n 0, 1) := by decide +kernel
theorem dX5_sweep_65 : decode cX5_sweep 65 = .ok (.getfield 17, 3) := by decide +kernel
theorem dX5_sweep_68 : decode cX5_sweep 68 = .ok (.iload_n 2, 1) := by decide +kernel
theorem dX5_sweep_69 : decode cX5_sweep 69 = .ok (.aaload, 1) := by decide +kernel
theorem dX5_sweep_70 : decode cX5_sweep 70 = .ok (.iconst 0, 1) := by decide +kernel
theorem dX5_sweep_71 : decode cX5_sweep 71 = .ok (.invokestatic 57, 3) := by decide +kernel
theorem dX5_sweep_74 : decode cX5_sweep 74 = .ok (.aastore, 1) := by decide +kernel
theorem dX5_sweep_75 : decode cX5_sweep 75 = .ok (.aload_n 0, 1) := by decide +kernel
theorem dX5_sweep_76 : decode cX5_sweep 76 = .ok (.dup, 1) := by decide +kernel
theorem dX5_sweep_77 : decode cX5_sweep 77 = .ok (.getfield 40, 3) := by decide +kernel
theorem dX5_sweep_80 : decode cX5_sweep 80 = .ok (.iconst 1, 1) := by decide +kernel
theorem dX5_sweep_81 : decode cX5_sweep 81 = .ok (.iadd, 1) := by decide +kernel
theorem dX5_sweep_82 : decode cX5_sweep 82 = .ok (.putfield 40, 3) := by decide +kernel
theorem dX5_sweep_85 : decode cX5_sweep 85 = .ok (.aload_n 3, 1) := by decide +kernel
theorem dX5_sweep_86 : decode cX5_sweep 86 = .ok (.getfield 47, 3) := by decide +kernel
theorem dX5_sweep_89 : decode cX5_sweep 89 = .ok (.ifCond .le 22, 3) := by decide +kernel
theorem dX5_sweep_92 : decode cX5_sweep 92 = .ok (.aload_n 0, 1) := by decide +kernel
theorem dX5_sweep_93 : decode cX5_sweep 93 = .ok (.getfield 17, 3) := by decide +kernel
theorem dX5_sweep_96 : decode cX5_sweep 96 = .ok (.iload_n 2, 1) := by decide +kernel
theorem dX5_sweep_97 : decode cX5_sweep 97 = .ok (.aload_n 0, 1) := by decide +kernel
theorem dX5_sweep_98 : decode cX5_sweep 98 = .ok (.getfield 17, 3) := by decide +kernel
theorem dX5_sweep_101 : decode cX5_sweep 101 = .ok (.iload_n 2, 1) := by decide +kernel
theorem dX5_sweep_102 : decode cX5_sweep 102 = .ok (.aaload, 1) := by decide +kernel
theorem dX5_sweep_103 : decode cX5_sweep 103 = .ok (.aload_n 3, 1) := by decide +kernel
theorem dX5_sweep_104 : decode cX5_sweep 104 = .ok (.invokestatic 63, 3) := by decide +kernel
theorem dX5_sweep_107 : decode cX5_sweep 107 = .ok (.aastore, 1) := by decide +kernel
theorem dX5_sweep_108 : decode cX5_sweep 108 = .ok (.goto 91, 3) := by decide +kernel
theorem dX5_sweep_111 : decode cX5_sweep 111 = .ok (.aload_n 3, 1) := by decide +kernel
theorem dX5_sweep_112 : decode cX5_sweep 112 = .ok (.getfield 67, 3) := by decide +kernel
theorem dX5_sweep_115 : decode cX5_sweep 115 = .ok (.ifCond .eq 27, 3) := by decide +kernel
theorem dX5_sweep_118 : decode cX5_sweep 118 = .ok (.aload_n 3, 1) := by decide +kernel
theorem dX5_sweep_119 : decode cX5_sweep 119 = .ok (.iconst 0, 1) := by decide +kernel
theorem dX5_sweep_120 : decode cX5_sweep 120 = .ok (.putfield 67, 3) := by decide +kernel
theorem dX5_sweep_123 : decode cX5_sweep 123 = .ok (.aload_n 0, 1) := by decide +kernel
theorem dX5_sweep_124 : decode cX5_sweep 124 = .ok (.getfield 17, 3) := by decide +kernel
theorem dX5_sweep_127 : decode cX5_sweep 127 = .ok (.iconst 1, 1) := by decide +kernel
theorem dX5_sweep_128 : decode cX5_sweep 128 = .ok (.aload_n 0, 1) := by decide +kernel
theorem dX5_sweep_129 : decode cX5_sweep 129 = .ok (.getfield 17, 3) := by decide +kernel
theorem dX5_sweep_132 : decode cX5_sweep 132 = .ok (.iconst 1, 1) := by decide +kernel
theorem dX5_sweep_133 : decode cX5_sweep 133 = .ok (.aaload, 1) := by decide +kernel
theorem dX5_sweep_134 : decode cX5_sweep 134 = .ok (.aload_n 3, 1) := by decide +kernel
theorem dX5_sweep_135 : decode cX5_sweep 135 = .ok (.invokestatic 63, 3) := by decide +kernel
theorem dX5_sweep_138 : decode cX5_sweep 138 = .ok (.aastore, 1) := by decide +kernel
theorem dX5_sweep_139 : decode cX5_sweep 139 = .ok (.goto 60, 3) := by decide +kernel
theorem dX5_sweep_142 : decode cX5_sweep 142 = .ok (.aload_n 0, 1) := by decide +kernel
theorem dX5_sweep_143 : decode cX5_sweep 143 = .ok (.getfield 23, 3) := by decide +kernel
theorem dX5_sweep_146 : decode cX5_sweep 146 = .ok (.iload_n 2, 1) := by decide +kernel
theorem dX5_sweep_147 : decode cX5_sweep 147 = .ok (.aload_n 0, 1) := by decide +kernel
theorem dX5_sweep_148 : decode cX5_sweep 148 = .ok (.getfield 23, 3) := by decide +kernel
theorem dX5_sweep_151 : decode cX5_sweep 151 = .ok (.iload_n 2, 1) := by decide +kernel
theorem dX5_sweep_152 : decode cX5_sweep 152 = .ok (.aaload, 1) := by decide +kernel
theorem dX5_sweep_153 : decode cX5_sweep 153 = .ok (.aload_n 3, 1) := by decide +kernel
theorem dX5_sweep_154 : decode cX5_sweep 154 = .ok (.getfield 50, 3) := by decide +kernel
theorem dX5_sweep_157 : decode cX5_sweep 157 = .ok (.invokestatic 71, 3) := by decide +kernel
theorem dX5_sweep_160 : decode cX5_sweep 160 = .ok (.aastore, 1) := by decide +kernel
theorem dX5_sweep_161 : decode cX5_sweep 161 = .ok (.aload_n 0, 1) := by decide +kernel
theorem dX5_sweep_162 : decode cX5_sweep 162 = .ok (.getfield 23, 3) := by decide +kernel
theorem dX5_sweep_165 : decode cX5_sweep 165 = .ok (.iload_n 2, 1) := by decide +kernel
theorem dX5_sweep_166 : decode cX5_sweep 166 = .ok (.aaload, 1) := by decide +kernel
theorem dX5_sweep_167 : decode cX5_sweep 167 = .ok (.arraylength, 1) := by decide +kernel
theorem dX5_sweep_168 : decode cX5_sweep 168 = .ok (.aload_n 0, 1) := by decide +kernel
theorem dX5_sweep_169 : decode cX5_sweep 169 = .ok (.getfield 7, 3) := by decide +kernel
theorem dX5_sweep_172 : decode cX5_sweep 172 = .ok (.if_icmp .le 22, 3) := by decide +kernel
theorem dX5_sweep_175 : decode cX5_sweep 175 = .ok (.aload_n 0, 1) := by decide +kernel
theorem dX5_sweep_176 : decode cX5_sweep 176 = .ok (.getfield 23, 3) := by decide +kernel
theorem dX5_sweep_179 : decode cX5_sweep 179 = .ok (.iload_n 2, 1) := by decide +kernel
theorem dX5_sweep_180 : decode cX5_sweep 180 = .ok (.aload_n 0, 1) := by decide +kernel
theorem dX5_sweep_181 : decode cX5_sweep 181 = .ok (.getfield 23, 3) := by decide +kernel
theorem dX5_sweep_184 : decode cX5_sweep 184 = .ok (.iload_n 2, 1) := by decide +kernel
theorem dX5_sweep_185 : decode cX5_sweep 185 = .ok (.aaload, 1) := by decide +kernel
theorem dX5_sweep_186 : decode cX5_sweep 186 = .ok (.iconst 0, 1) := by decide +kernel
theorem dX5_sweep_187 : decode cX5_sweep 187 = .ok (.invokestatic 74, 3) := by decide +kernel
theorem dX5_sweep_190 : decode cX5_sweep 190 = .ok (.aastore, 1) := by decide +kernel
theorem dX5_sweep_191 : decode cX5_sweep 191 = .ok (.goto (-30), 3) := by decide +kernel
theorem dX5_sweep_194 : decode cX5_sweep 194 = .ok (.aload_n 3, 1) := by decide +kernel
theorem dX5_sweep_195 : decode cX5_sweep 195 = .ok (.getfield 50, 3) := by decide +kernel
theorem dX5_sweep_198 : decode cX5_sweep 198 = .ok (.ireturn, 1) := by decide +kernel
theorem dX5_sweep_199 : decode cX5_sweep 199 = .ok (.goto (-199), 3) := by decide +kernel
theorem dX5_fetch_0 : decode cX5_fetch 0 = .ok (.aload_n 0, 1) := by decide +kernel
theorem dX5_fetch_1 : decode cX5_fetch 1 = .ok (.iload_n 1, 1) := by decide +kernel
theorem dX5_fetch_2 : decode cX5_fetch 2 = .ok (.invokevirtual 76, 3) := by decide +kernel
theorem dX5_fetch_5 : decode cX5_fetch 5 = .ok (.astore_n 2, 1) := by decide +kernel
theorem dX5_fetch_6 : decode cX5_fetch 6 = .ok (.aload_n 2, 1) := by decide +kernel
theorem dX5_fetch_7 : decode cX5_fetch 7 = .ok (.ifnull 30, 3) := by decide +kernel
theorem dX5_fetch_10 : decode cX5_fetch 10 = .ok (.aload_n 2, 1) := by decide +kernel
theorem dX5_fetch_11 : decode cX5_fetch 11 = .ok (.iconst 1, 1) := by decide +kernel
theorem dX5_fetch_12 : decode cX5_fetch 12 = .ok (.putfield 67, 3) := by decide +kernel
theorem dX5_fetch_15 : decode cX5_fetch 15 = .ok (.aload_n 2, 1) := by decide +kernel
theorem dX5_fetch_16 : decode cX5_fetch 16 = .ok (.dup, 1) := by decide +kernel
theorem dX5_fetch_17 : decode cX5_fetch 17 = .ok (.getfield 80, 3) := by decide +kernel
theorem dX5_fetch_20 : decode cX5_fetch 20 = .ok (.iconst 1, 1) := by decide +kernel
theorem dX5_fetch_21 : decode cX5_fetch 21 = .ok (.iadd, 1) := by decide +kernel
theorem dX5_fetch_22 : decode cX5_fetch 22 = .ok (.putfield 80, 3) := by decide +kernel
theorem dX5_fetch_25 : decode cX5_fetch 25 = .ok (.aload_n 0, 1) := by decide +kernel
theorem dX5_fetch_26 : decode cX5_fetch 26 = .ok (.dup, 1) := by decide +kernel
theorem dX5_fetch_27 : decode cX5_fetch 27 = .ok (.getfield 31, 3) := by decide +kernel
theorem dX5_fetch_30 : decode cX5_fetch 30 = .ok (.iconst 1, 1) := by decide +kernel
theorem dX5_fetch_31 : decode cX5_fetch 31 = .ok (.iadd, 1) := by decide +kernel
theorem dX5_fetch_32 : decode cX5_fetch 32 = .ok (.putfield 31, 3) := by decide +kernel
theorem dX5_fetch_35 : decode cX5_fetch 35 = .ok (.iconst 0, 1) := by decide +kernel
theorem dX5_fetch_36 : decode cX5_fetch 36 = .ok (.ireturn, 1) := by decide +kernel
theorem dX5_fetch_37 : decode cX5_fetch 37 = .ok (.aload_n 0, 1) := by decide +kernel
theorem dX5_fetch_38 : decode cX5_fetch 38 = .ok (.invokevirtual 83, 3) := by decide +kernel
theorem dX5_fetch_41 : decode cX5_fetch 41 = .ok (.aload_n 0, 1) := by decide +kernel
theorem dX5_fetch_42 : decode cX5_fetch 42 = .ok (.getfield 7, 3) := by decide +kernel
theorem dX5_fetch_45 : decode cX5_fetch 45 = .ok (.if_icmp .ne 17, 3) := by decide +kernel
theorem dX5_fetch_48 : decode cX5_fetch 48 = .ok (.aload_n 0, 1) := by decide +kernel
theorem dX5_fetch_49 : decode cX5_fetch 49 = .ok (.invokevirtual 87, 3) := by decide +kernel
theorem dX5_fetch_52 : decode cX5_fetch 52 = .ok (.aload_n 0, 1) := by decide +kernel
theorem dX5_fetch_53 : decode cX5_fetch 53 = .ok (.invokevirtual 83, 3) := by decide +kernel
theorem dX5_fetch_56 : decode cX5_fetch 56 = .ok (.if_icmp .ne 6, 3) := by decide +kernel
theorem dX5_fetch_59 : decode cX5_fetch 59 = .ok (.bipush (-9), 2) := by decide +kernel
theorem dX5_fetch_61 : decode cX5_fetch 61 = .ok (.ireturn, 1) := by decide +kernel
theorem dX5_fetch_62 : decode cX5_fetch 62 = .ok (.aload_n 0, 1) := by decide +kernel
theorem dX5_fetch_63 : decode cX5_fetch 63 = .ok (.dup, 1) := by decide +kernel
theorem dX5_fetch_64 : decode cX5_fetch 64 = .ok (.getfield 34, 3) := by decide +kernel
theorem dX5_fetch_67 : decode cX5_fetch 67 = .ok (.iconst 1, 1) := by decide +kernel
theorem dX5_fetch_68 : decode cX5_fetch 68 = .ok (.iadd, 1) := by decide +kernel
theorem dX5_fetch_69 : decode cX5_fetch 69 = .ok (.putfield 34, 3) := by decide +kernel
theorem dX5_fetch_72 : decode cX5_fetch 72 = .ok (.aload_n 0, 1) := by decide +kernel
theorem dX5_fetch_73 : decode cX5_fetch 73 = .ok (.iload_n 1, 1) := by decide +kernel
theorem dX5_fetch_74 : decode cX5_fetch 74 = .ok (.invokevirtual 90, 3) := by decide +kernel
theorem dX5_fetch_77 : decode cX5_fetch 77 = .ok (.astore_n 3, 1) := by decide +kernel
theorem dX5_fetch_78 : decode cX5_fetch 78 = .ok (.aload_n 3, 1) := by decide +kernel
theorem dX5_fetch_79 : decode cX5_fetch 79 = .ok (.ifnull 126, 3) := by decide +kernel
theorem dX5_fetch_82 : decode cX5_fetch 82 = .ok (.aload_n 0, 1) := by decide +kernel
theorem dX5_fetch_83 : decode cX5_fetch 83 = .ok (.getfield 23, 3) := by decide +kernel
theorem dX5_fetch_86 : decode cX5_fetch 86 = .ok (.iconst 1, 1) := by decide +kernel
theorem dX5_fetch_87 : decode cX5_fetch 87 = .ok (.aload_n 3, 1) := by decide +kernel
theorem dX5_fetch_88 : decode cX5_fetch 88 = .ok (.iconst 0, 1) := by decide +kernel
theorem dX5_fetch_89 : decode cX5_fetch 89 = .ok (.iaload, 1) := by decide +kernel
theorem dX5_fetch_90 : decode cX5_fetch 90 = .ok (.isub, 1) := by decide +kernel
theorem dX5_fetch_91 : decode cX5_fetch 91 = .ok (.aaload, 1) := by decide +kernel
theorem dX5_fetch_92 : decode cX5_fetch 92 = .ok (.arraylength, 1) := by decide +kernel
theorem dX5_fetch_93 : decode cX5_fetch 93 = .ok (.aload_n 0, 1) := by decide +kernel
theorem dX5_fetch_94 : decode cX5_fetch 94 = .ok (.getfield 23, 3) := by decide +kernel
theorem dX5_fetch_97 : decode cX5_fetch 97 = .ok (.aload_n 3, 1) := by decide +kernel
theorem dX5_fetch_98 : decode cX5_fetch 98 = .ok (.iconst 0, 1) := by decide +kernel
theorem dX5_fetch_99 : decode cX5_fetch 99 = .ok (.iaload, 1) := by decide +kernel
theorem dX5_fetch_100 : decode cX5_fetch 100 = .ok (.aaload, 1) := by decide +kernel
theorem dX5_fetch_101 : decode cX5_fetch 101 = .ok (.arraylength, 1) := by decide +kernel
theorem dX5_fetch_102 : decode cX5_fetch 102 = .ok (.idiv, 1) := by decide +kernel
theorem dX5_fetch_103 : decode cX5_fetch 103 = .ok (.istore 4, 2) := by decide +kernel
theorem dX5_fetch_105 : decode cX5_fetch 105 = .ok (.iload 4, 2) := by decide +kernel
theorem dX5_fetch_107 : decode cX5_fetch 107 = .ok (.ifCond .ne 6, 3) := by decide +kernel
theorem dX5_fetch_110 : decode cX5_fetch 110 = .ok (.iconst 1, 1) := by decide +kernel
theorem dX5_fetch_111 : decode cX5_fetch 111 = .ok (.istore 4, 2) := by decide +kernel
theorem dX5_fetch_113 : decode cX5_fetch 113 = .ok (.aload_n 0, 1) := by decide +kernel
theorem dX5_fetch_114 : decode cX5_fetch 114 = .ok (.dup, 1) := by decide +kernel
theorem dX5_fetch_115 : decode cX5_fetch 115 = .ok (.getfield 28, 3) := by decide +kernel
theorem dX5_fetch_118 : decode cX5_fetch 118 = .ok (.aload_n 3, 1) := by decide +kernel
theorem dX5_fetch_119 : decode cX5_fetch 119 = .ok (.iconst 0, 1) := by decide +kernel
theorem dX5_fetch_120 : decode cX5_fetch 120 = .ok (.iaload, 1) := by decide +kernel
theorem dX5_fetch_121 : decode cX5_fetch 121 = .ok (.ifCond .ne 8, 3) := by decide +kernel
theorem dX5_fetch_124 : decode cX5_fetch 124 = .ok (.iload 4, 2) := by decide +kernel
theorem dX5_fetch_126 : decode cX5_fetch 126 = .ok (.goto 6, 3) := by decide +kernel
theorem dX5_fetch_129 : decode cX5_fetch 129 = .ok (.iload 4, 2) := by decide +kernel
theorem dX5_fetch_131 : decode cX5_fetch 131 = .ok (.ineg, 1) := by decide +kernel
theorem dX5_fetch_132 : decode cX5_fetch 132 = .ok (.iadd, 1) := by decide +kernel
theorem dX5_fetch_133 : decode cX5_fetch 133 = .ok (.putfield 28, 3) := by decide +kernel
theorem dX5_fetch_136 : decode cX5_fetch 136 = .ok (.aload_n 0, 1) := by decide +kernel
theorem dX5_fetch_137 : decode cX5_fetch 137 = .ok (.aload_n 0, 1) := by decide +kernel
theorem dX5_fetch_138 : decode cX5_fetch 138 = .ok (.getfield 28, 3) := by decide +kernel
theorem dX5_fetch_141 : decode cX5_fetch 141 = .ok (.ifCond .ge 7, 3) := by decide +kernel
theorem dX5_fetch_144 : decode cX5_fetch 144 = .ok (.iconst 0, 1) := by decide +kernel
theorem dX5_fetch_145 : decode cX5_fetch 145 = .ok (.goto 25, 3) := by decide +kernel
theorem dX5_fetch_148 : decode cX5_fetch 148 = .ok (.aload_n 0, 1) := by decide +kernel
theorem dX5_fetch_149 : decode cX5_fetch 149 = .ok (.getfield 28, 3) := by decide +kernel
theorem dX5_fetch_152 : decode cX5_fetch 152 = .ok (.aload_n 0, 1) := by decide +kernel
theorem dX5_fetch_153 : decode cX5_fetch 153 = .ok (.getfield 7, 3) := by decide +kernel
theorem dX5_fetch_156 : decode cX5_fetch 156 = .ok (.if_icmp .le 10, 3) := by decide +kernel
theorem dX5_fetch_159 : decode cX5_fetch 159 = .ok (.aload_n 0, 1) := by decide +kernel
theorem dX5_fetch_160 : decode cX5_fetch 160 = .ok (.getfield 7, 3) := by decide +kernel
theorem dX5_fetch_163 : decode cX5_fetch 163 = .ok (.goto 7, 3) := by decide +kernel
theorem dX5_fetch_166 : decode cX5_fetch 166 = .ok (.aload_n 0, 1) := by decide +kernel
theorem dX5_fetch_167 : decode cX5_fetch 167 = .ok (.getfield 28, 3) := by decide +kernel
theorem dX5_fetch_170 : decode cX5_fetch 170 = .ok (.putfield 28, 3) := by decide +kernel
theorem dX5_fetch_173 : decode cX5_fetch 173 = .ok (.aload_n 0, 1) := by decide +kernel
theorem dX5_fetch_174 : decode cX5_fetch 174 = .ok (.getfield 23, 3) := by decide +kernel
theorem dX5_fetch_177 : decode cX5_fetch 177 = .ok (.aload_n 3, 1) := by decide +kernel
theorem dX5_fetch_178 : decode cX5_fetch 178 = .ok (.iconst 0, 1) := by decide +kernel
theorem dX5_fetch_179 : decode cX5_fetch 179 = .ok (.iaload, 1) := by decide +kernel
theorem dX5_fetch_180 : decode cX5_fetch 180 = .ok (.aload_n 0, 1) := by decide +kernel
theorem dX5_fetch_181 : decode cX5_fetch 181 = .ok (.getfield 23, 3) := by decide +kernel
theorem dX5_fetch_184 : decode cX5_fetch 184 = .ok (.aload_n 3, 1) := by decide +kernel
theorem dX5_fetch_185 : decode cX5_fetch 185 = .ok (.iconst 0, 1) := by decide +kernel
theorem dX5_fetch_186 : decode cX5_fetch 186 = .ok (.iaload, 1) := by decide +kernel
theorem dX5_fetch_187 : decode cX5_fetch 187 = .ok (.aaload, 1) := by decide +kernel
theorem dX5_fetch_188 : decode cX5_fetch 188 = .ok (.aload_n 3, 1) := by decide +kernel
theorem dX5_fetch_189 : decode cX5_fetch 189 = .ok (.iconst 1, 1) := by decide +kernel
theorem dX5_fetch_190 : decode cX5_fetch 190 = .ok (.iaload, 1) := by decide +kernel
theorem dX5_fetch_191 : decode cX5_fetch 191 = .ok (.invokestatic 74, 3) := by decide +kernel
theorem dX5_fetch_194 : decode cX5_fetch 194 = .ok (.aastore, 1) := by decide +kernel
theorem dX5_fetch_195 : decode cX5_fetch 195 = .ok (.aload_n 0, 1) := by decide +kernel
theorem dX5_fetch_196 : decode cX5_fetch 196 = .ok (.dup, 1) := by decide +kernel
theorem dX5_fetch_197 : decode cX5_fetch 197 = .ok (.getfield 37, 3) := by decide +kernel
theorem dX5_fetch_200 : decode cX5_fetch 200 = .ok (.iconst 1, 1) := by decide +kernel
theorem dX5_fetch_201 : decode cX5_fetch 201 = .ok (.iadd, 1) := by decide +kernel
theorem dX5_fetch_202 : decode cX5_fetch 202 = .ok (.putfield 37, 3) := by decide +kernel
theorem dX5_fetch_205 : decode cX5_fetch 205 = .ok (.aload_n 0, 1) := by decide +kernel
theorem dX5_fetch_206 : decode cX5_fetch 206 = .ok (.invokevirtual 83, 3) := by decide +kernel
theorem dX5_fetch_209 : decode cX5_fetch 209 = .ok (.aload_n 0, 1) := by decide +kernel
theorem dX5_fetch_210 : decode cX5_fetch 210 = .ok (.getfield 7, 3) := by decide +kernel
theorem dX5_fetch_213 : decode cX5_fetch 213 = .ok (.if_icmp .ne 8, 3) := by decide +kernel
theorem dX5_fetch_216 : decode cX5_fetch 216 = .ok (.aload_n 0, 1) := by decide +kernel
theorem dX5_fetch_217 : decode cX5_fetch 217 = .ok (.invokevirtual 94, 3) := by decide +kernel
theorem dX5_fetch_220 : decode cX5_fetch 220 = .ok (.pop, 1) := by decide +kernel
theorem dX5_fetch_221 : decode cX5_fetch 221 = .ok (.aload_n 3, 1) := by decide +kernel
theorem dX5_fetch_222 : decode cX5_fetch 222 = .ok (.ifnonnull 7, 3) := by decide +kernel
theorem dX5_fetch_225 : decode cX5_fetch 225 = .ok (.iconst 0, 1) := by decide +kernel
theorem dX5_fetch_226 : decode cX5_fetch 226 = .ok (.goto 4, 3) := by decide +kernel
theorem dX5_fetch_229 : decode cX5_fetch 229 = .ok (.iconst 1, 1) := by decide +kernel
theorem dX5_fetch_230 : decode cX5_fetch 230 = .ok (.istore 4, 2) := by decide +kernel
theorem dX5_fetch_232 : decode cX5_fetch 232 = .ok (.aload_n 0, 1) := by decide +kernel
theorem dX5_fetch_233 : decode cX5_fetch 233 = .ok (.getfield 17, 3) := by decide +kernel
theorem dX5_fetch_236 : decode cX5_fetch 236 = .ok (.iload 4, 2) := by decide +kernel
theorem dX5_fetch_238 : decode cX5_fetch 238 = .ok (.aload_n 0, 1) := by decide +kernel
theorem dX5_fetch_239 : decode cX5_fetch 239 = .ok (.getfield 17, 3) := by decide +kernel
theorem dX5_fetch_242 : decode cX5_fetch 242 = .ok (.iload 4, 2) := by decide +kernel
theorem dX5_fetch_244 : decode cX5_fetch 244 = .ok (.aaload, 1) := by decide +kernel
theorem dX5_fetch_245 : decode cX5_fetch 245 = .ok (.new 15, 3) := by decide +kernel
theorem dX5_fetch_248 : decode cX5_fetch 248 = .ok (.dup, 1) := by decide +kernel
theorem dX5_fetch_249 : decode cX5_fetch 249 = .ok (.iload_n 1, 1) := by decide +kernel
theorem dX5_fetch_250 : decode cX5_fetch 250 = .ok (.invokespecial 97, 3) := by decide +kernel
theorem dX5_fetch_253 : decode cX5_fetch 253 = .ok (.invokestatic 63, 3) := by decide +kernel
theorem dX5_fetch_256 : decode cX5_fetch 256 = .ok (.aastore, 1) := by decide +kernel
theorem dX5_fetch_257 : decode cX5_fetch 257 = .ok (.aload_n 3, 1) := by decide +kernel
theorem dX5_fetch_258 : decode cX5_fetch 258 = .ok (.ifnonnull 7, 3) := by decide +kernel
theorem dX5_fetch_261 : decode cX5_fetch 261 = .ok (.iconst 1, 1) := by decide +kernel
theorem dX5_fetch_262 : decode cX5_fetch 262 = .ok (.goto 8, 3) := by decide +kernel
theorem dX5_fetch_265 : decode cX5_fetch 265 = .ok (.iconst 2, 1) := by decide +kernel
theorem dX5_fetch_266 : decode cX5_fetch 266 = .ok (.aload_n 3, 1) := by decide +kernel
theorem dX5_fetch_267 : decode cX5_fetch 267 = .ok (.iconst 0, 1) := by decide +kernel
theorem dX5_fetch_268 : decode cX5_fetch 268 = .ok (.iaload, 1) := by decide +kernel
theorem dX5_fetch_269 : decode cX5_fetch 269 = .ok (.iadd, 1) := by decide +kernel
theorem dX5_fetch_270 : decode cX5_fetch 270 = .ok (.ireturn, 1) := by decide +kernel
theorem dX5_fetchAll_0 : decode cX5_fetchAll 0 = .ok (.iconst 0, 1) := by decide +kernel
theorem dX5_fetchAll_1 : decode cX5_fetchAll 1 = .ok (.istore 4, 2) := by decide +kernel
theorem dX5_fetchAll_3 : decode cX5_fetchAll 3 = .ok (.iload_n 1, 1) := by decide +kernel
theorem dX5_fetchAll_4 : decode cX5_fetchAll 4 = .ok (.istore 5, 2) := by decide +kernel
theorem dX5_fetchAll_6 : decode cX5_fetchAll 6 = .ok (.iconst 0, 1) := by decide +kernel
theorem dX5_fetchAll_7 : decode cX5_fetchAll 7 = .ok (.istore 6, 2) := by decide +kernel
theorem dX5_fetchAll_9 : decode cX5_fetchAll 9 = .ok (.iload 6, 2) := by decide +kernel
theorem dX5_fetchAll_11 : decode cX5_fetchAll 11 = .ok (.iload_n 3, 1) := by decide +kernel
theorem dX5_fetchAll_12 : decode cX5_fetchAll 12 = .ok (.if_icmp .ge 37, 3) := by decide +kernel
theorem dX5_fetchAll_15 : decode cX5_fetchAll 15 = .ok (.iload 4, 2) := by decide +kernel
theorem dX5_fetchAll_17 : decode cX5_fetchAll 17 = .ok (.aload_n 0, 1) := by decide +kernel
theorem dX5_fetchAll_18 : decode cX5_fetchAll 18 = .ok (.iload 5, 2) := by decide +kernel
theorem dX5_fetchAll_20 : decode cX5_fetchAll 20 = .ok (.invokevirtual 100, 3) := by decide +kernel
theorem dX5_fetchAll_23 : decode cX5_fetchAll 23 = .ok (.ifCond .ne 7, 3) := by decide +kernel
theorem dX5_fetchAll_26 : decode cX5_fetchAll 26 = .ok (.iconst 1, 1) := by decide +kernel
theorem dX5_fetchAll_27 : decode cX5_fetchAll 27 = .ok (.goto 4, 3) := by decide +kernel
theorem dX5_fetchAll_30 : decode cX5_fetchAll 30 = .ok (.iconst 0, 1) := by decide +kernel
theorem dX5_fetchAll_31 : decode cX5_fetchAll 31 = .ok (.iadd, 1) := by decide +kernel
theorem dX5_fetchAll_32 : decode cX5_fetchAll 32 = .ok (.istore 4, 2) := by decide +kernel
theorem dX5_fetchAll_34 : decode cX5_fetchAll 34 = .ok (.iload 5, 2) := by decide +kernel
theorem dX5_fetchAll_36 : decode cX5_fetchAll 36 = .ok (.iload_n 2, 1) := by decide +kernel
theorem dX5_fetchAll_37 : decode cX5_fetchAll 37 = .ok (.iadd, 1) := by decide +kernel
theorem dX5_fetchAll_38 : decode cX5_fetchAll 38 = .ok (.bipush 40, 2) := by decide +kernel
theorem dX5_fetchAll_40 : decode cX5_fetchAll 40 = .ok (.irem, 1) := by decide +kernel
theorem dX5_fetchAll_41 : decode cX5_fetchAll 41 = .ok (.istore 5, 2) := by decide +kernel
theorem dX5_fetchAll_43 : decode cX5_fetchAll 43 = .ok (.iinc 6 1, 3) := by decide +kernel
theorem dX5_fetchAll_46 : decode cX5_fetchAll 46 = .ok (.goto (-37), 3) := by decide +kernel
theorem dX5_fetchAll_49 : decode cX5_fetchAll 49 = .ok (.iload 4, 2) := by decide +kernel
theorem dX5_fetchAll_51 : decode cX5_fetchAll 51 = .ok (.ireturn, 1) := by decide +kernel
theorem dX5_setPlaces_0 : decode cX5_setPlaces 0 = .ok (.aload_n 0, 1) := by decide +kernel
theorem dX5_setPlaces_1 : decode cX5_setPlaces 1 = .ok (.iload_n 1, 1) := by decide +kernel
theorem dX5_setPlaces_2 : decode cX5_setPlaces 2 = .ok (.putfield 7, 3) := by decide +kernel
theorem dX5_setPlaces_5 : decode cX5_setPlaces 5 = .ok (.aload_n 0, 1) := by decide +kernel
theorem dX5_setPlaces_6 : decode cX5_setPlaces 6 = .ok (.invokevirtual 83, 3) := by decide +kernel
theorem dX5_setPlaces_9 : decode cX5_setPlaces 9 = .ok (.iload_n 1, 1) := by decide +kernel
theorem dX5_setPlaces_10 : decode cX5_setPlaces 10 = .ok (.if_icmp .le 11, 3) := by decide +kernel
theorem dX5_setPlaces_13 : decode cX5_setPlaces 13 = .ok (.aload_n 0, 1) := by decide +kernel
theorem dX5_setPlaces_14 : decode cX5_setPlaces 14 = .ok (.invokevirtual 94, 3) := by decide +kernel
theorem dX5_setPlaces_17 : decode cX5_setPlaces 17 = .ok (.pop, 1) := by decide +kernel
theorem dX5_setPlaces_18 : decode cX5_setPlaces 18 = .ok (.goto (-13), 3) := by decide +kernel
theorem dX5_setPlaces_21 : decode cX5_setPlaces 21 = .ok (.aload_n 0, 1) := by decide +kernel
theorem dX5_setPlaces_22 : decode cX5_setPlaces 22 = .ok (.getfield 28, 3) := by decide +kernel
theorem dX5_setPlaces_25 : decode cX5_setPlaces 25 = .ok (.iload_n 1, 1) := by decide +kernel
theorem dX5_setPlaces_26 : decode cX5_setPlaces 26 = .ok (.if_icmp .le 8, 3) := by decide +kernel
theorem dX5_setPlaces_29 : decode cX5_setPlaces 29 = .ok (.aload_n 0, 1) := by decide +kernel
theorem dX5_setPlaces_30 : decode cX5_setPlaces 30 = .ok (.iload_n 1, 1) := by decide +kernel
theorem dX5_setPlaces_31 : decode cX5_setPlaces 31 = .ok (.putfield 28, 3) := by decide +kernel
theorem dX5_setPlaces_34 : decode cX5_setPlaces 34 = .ok (.iconst 0, 1) := by decide +kernel
theorem dX5_setPlaces_35 : decode cX5_setPlaces 35 = .ok (.istore_n 2, 1) := by decide +kernel
theorem dX5_setPlaces_36 : decode cX5_setPlaces 36 = .ok (.iload_n 2, 1) := by decide +kernel
theorem dX5_setPlaces_37 : decode cX5_setPlaces 37 = .ok (.iconst 2, 1) := by decide +kernel
theorem dX5_setPlaces_38 : decode cX5_setPlaces 38 = .ok (.if_icmp .ge 39, 3) := by decide +kernel
theorem dX5_setPlaces_41 : decode cX5_setPlaces 41 = .ok (.aload_n 0, 1) := by decide +kernel
theorem dX5_setPlaces_42 : decode cX5_setPlaces 42 = .ok (.getfield 23, 3) := by decide +kernel
theorem dX5_setPlaces_45 : decode cX5_setPlaces 45 = .ok (.iload_n 2, 1) := by decide +kernel
theorem dX5_setPlaces_46 : decode cX5_setPlaces 46 = .ok (.aaload, 1) := by decide +kernel
theorem dX5_setPlaces_47 : decode cX5_setPlaces 47 = .ok (.arraylength, 1) := by decide +kernel
theorem dX5_setPlaces_48 : decode cX5_setPlaces 48 = .ok (.iload_n 1, 1) := by decide +kernel
theorem dX5_setPlaces_49 : decode cX5_setPlaces 49 = .ok (.if_icmp .le 22, 3) := by decide +kernel
theorem dX5_setPlaces_52 : decode cX5_setPlaces 52 = .ok (.aload_n 0, 1) := by decide +kernel
theorem dX5_setPlaces_53 : decode cX5_setPlaces 53 = .ok (.getfield 23, 3) := by decide +kernel
theorem dX5_setPlaces_56 : decode cX5_setPlaces 56 = .ok (.iload_n 2, 1) := by decide +kernel
theorem dX5_setPlaces_57 : decode cX5_setPlaces 57 = .ok (.aload_n 0, 1) := by decide +kernel
theorem dX5_setPlaces_58 : decode cX5_setPlaces 58 = .ok (.getfield 23, 3) := by decide +kernel
theorem dX5_setPlaces_61 : decode cX5_setPlaces 61 = .ok (.iload_n 2, 1) := by decide +kernel
theorem dX5_setPlaces_62 : decode cX5_setPlaces 62 = .ok (.aaload, 1) := by decide +kernel
theorem dX5_setPlaces_63 : decode cX5_setPlaces 63 = .ok (.iconst 0, 1) := by decide +kernel
theorem dX5_setPlaces_64 : decode cX5_setPlaces 64 = .ok (.invokestatic 74, 3) := by decide +kernel
theorem dX5_setPlaces_67 : decode cX5_setPlaces 67 = .ok (.aastore, 1) := by decide +kernel
theorem dX5_setPlaces_68 : decode cX5_setPlaces 68 = .ok (.goto (-27), 3) := by decide +kernel
theorem dX5_setPlaces_71 : decode cX5_setPlaces 71 = .ok (.iinc 2 1, 3) := by decide +kernel
theorem dX5_setPlaces_74 : decode cX5_setPlaces 74 = .ok (.goto (-38), 3) := by decide +kernel
theorem dX5_setPlaces_77 : decode cX5_setPlaces 77 = .ok (.return_, 1) := by decide +kernel
theorem dX5_isSame_0 : decode cX5_isSame 0 = .ok (.iconst 0, 1) := by decide +kernel
theorem dX5_isSame_1 : decode cX5_isSame 1 = .ok (.istore_n 2, 1) := by decide +kernel
theorem dX5_isSame_2 : decode cX5_isSame 2 = .ok (.iconst 0, 1) := by decide +kernel
theorem dX5_isSame_3 : decode cX5_isSame 3 = .ok (.istore_n 3, 1) := by decide +kernel
theorem dX5_isSame_4 : decode cX5_isSame 4 = .ok (.iload_n 3, 1) := by decide +kernel
theorem dX5_isSame_5 : decode cX5_isSame 5 = .ok (.bipush 40, 2) := by decide +kernel
theorem dX5_isSame_7 : decode cX5_isSame 7 = .ok (.if_icmp .ge 207, 3) := by decide +kernel
theorem dX5_isSame_10 : decode cX5_isSame 10 = .ok (.iconst 0, 1) := by decide +kernel
theorem dX5_isSame_11 : decode cX5_isSame 11 = .ok (.istore 4, 2) := by decide +kernel
theorem dX5_isSame_13 : decode cX5_isSame 13 = .ok (.iload 4, 2) := by decide +kernel
theorem dX5_isSame_15 : decode cX5_isSame 15 = .ok (.iconst 2, 1) := by decide +kernel
theorem dX5_isSame_16 : decode cX5_isSame 16 = .ok (.if_icmp .ge 156, 3) := by decide +kernel
theorem dX5_isSame_19 : decode cX5_isSame 19 = .ok (.iconst 0, 1) := by decide +kernel
theorem dX5_isSame_20 : decode cX5_isSame 20 = .ok (.istore 5, 2) := by decide +kernel
theorem dX5_isSame_22 : decode cX5_isSame 22 = .ok (.iload 5, 2) := by decide +kernel
theorem dX5_isSame_24 : decode cX5_isSame 24 = .ok (.aload_n 0, 1) := by decide +kernel
theorem dX5_isSame_25 : decode cX5_isSame 25 = .ok (.getfield 17, 3) := by decide +kernel
theorem dX5_isSame_28 : decode cX5_isSame 28 = .ok (.iload 4, 2) := by decide +kernel
theorem dX5_isSame_30 : decode cX5_isSame 30 = .ok (.aaload, 1) := by decide +kernel
theorem dX5_isSame_31 : decode cX5_isSame 31 = .ok (.arraylength, 1) := by decide +kernel
theorem dX5_isSame_32 : decode cX5_isSame 32 = .ok (.if_icmp .ge 134, 3) := by decide +kernel
theorem dX5_isSame_35 : decode cX5_isSame 35 = .ok (.aload_n 0, 1) := by decide +kernel
theorem dX5_isSame_36 : decode cX5_isSame 36 = .ok (.getfield 17, 3) := by decide +kernel
theorem dX5_isSame_39 : decode cX5_isSame 39 = .ok (.iload 4, 2) := by decide +kernel
theorem dX5_isSame_41 : decode cX5_isSame 41 = .ok (.aaload, 1) := by decide +kernel
theorem dX5_isSame_42 : decode cX5_isSame 42 = .ok (.iload 5, 2) := by decide +kernel
theorem dX5_isSame_44 : decode cX5_isSame 44 = .ok (.aaload, 1) := by decide +kernel
theorem dX5_isSame_45 : decode cX5_isSame 45 = .ok (.astore 6, 2) := by decide +kernel
theorem dX5_isSame_47 : decode cX5_isSame 47 = .ok (.aload 6, 2) := by decide +kernel
theorem dX5_isSame_49 : decode cX5_isSame 49 = .ok (.getfield 50, 3) := by decide +kernel
theorem dX5_isSame_52 : decode cX5_isSame 52 = .ok (.iload_n 3, 1) := by decide +kernel
theorem dX5_isSame_53 : decode cX5_isSame 53 = .ok (.if_icmp .eq 6, 3) := by decide +kernel
theorem dX5_isSame_56 : decode cX5_isSame 56 = .ok (.goto 104, 3) := by decide +kernel
theorem dX5_isSame_59 : decode cX5_isSame 59 = .ok (.iconst 5, 1) := by decide +kernel
theorem dX5_isSame_60 : decode cX5_isSame 60 = .ok (.newarray .int, 2) := by decide +kernel
theorem dX5_isSame_62 : decode cX5_isSame 62 = .ok (.dup, 1) := by decide +kernel
theorem dX5_isSame_63 : decode cX5_isSame 63 = .ok (.iconst 0, 1) := by decide +kernel
theorem dX5_isSame_64 : decode cX5_isSame 64 = .ok (.iload 4, 2) := by decide +kernel
theorem dX5_isSame_66 : decode cX5_isSame 66 = .ok (.iastore, 1) := by decide +kernel
theorem dX5_isSame_67 : decode cX5_isSame 67 = .ok (.dup, 1) := by decide +kernel
theorem dX5_isSame_68 : decode cX5_isSame 68 = .ok (.iconst 1, 1) := by decide +kernel
theorem dX5_isSame_69 : decode cX5_isSame 69 = .ok (.iload 5, 2) := by decide +kernel
theorem dX5_isSame_71 : decode cX5_isSame 71 = .ok (.iastore, 1) := by decide +kernel
theorem dX5_isSame_72 : decode cX5_isSame 72 = .ok (.dup, 1) := by decide +kernel
theorem dX5_isSame_73 : decode cX5_isSame 73 = .ok (.iconst 2, 1) := by decide +kernel
theorem dX5_isSame_74 : decode cX5_isSame 74 = .ok (.aload 6, 2) := by decide +kernel
theorem dX5_isSame_76 : decode cX5_isSame 76 = .ok (.getfield 67, 3) := by decide +kernel
theorem dX5_isSame_79 : decode cX5_isSame 79 = .ok (.ifCond .eq 7, 3) := by decide +kernel
theorem dX5_isSame_82 : decode cX5_isSame 82 = .ok (.iconst 1, 1) := by decide +kernel
theorem dX5_isSame_83 : decode cX5_isSame 83 = .ok (.goto 4, 3) := by decide +kernel
theorem dX5_isSame_86 : decode cX5_isSame 86 = .ok (.iconst 0, 1) := by decide +kernel
theorem dX5_isSame_87 : decode cX5_isSame 87 = .ok (.iastore, 1) := by decide +kernel
theorem dX5_isSame_88 : decode cX5_isSame 88 = .ok (.dup, 1) := by decide +kernel
theorem dX5_isSame_89 : decode cX5_isSame 89 = .ok (.iconst 3, 1) := by decide +kernel
theorem dX5_isSame_90 : decode cX5_isSame 90 = .ok (.aload 6, 2) := by decide +kernel
theorem dX5_isSame_92 : decode cX5_isSame 92 = .ok (.getfield 47, 3) := by decide +kernel
theorem dX5_isSame_95 : decode cX5_isSame 95 = .ok (.iastore, 1) := by decide +kernel
theorem dX5_isSame_96 : decode cX5_isSame 96 = .ok (.dup, 1) := by decide +kernel
end
section
theorem dX5_isSame_97 : decode cX5_isSame 97 = .ok (.iconst 4, 1) := by decide +kernel
theorem dX5_isSame_98 : decode cX5_isSame 98 = .ok (.aload 6, 2) := by decide +kernel
theorem dX5_isSame_100 : decode cX5_isSame 100 = .ok (.getfield 80, 3) := by decide +kernel
theorem dX5_isSame_103 : decode cX5_isSame 103 = .ok (.iastore, 1) := by decide +kernel
theorem dX5_isSame_104 : decode cX5_isSame 104 = .ok (.astore 7, 2) := by decide +kernel
theorem dX5_isSame_106 : decode cX5_isSame 106 = .ok (.iconst 0, 1) := by decide +kernel
theorem dX5_isSame_107 : decode cX5_isSame 107 = .ok (.istore 8, 2) := by decide +kernel
theorem dX5_isSame_109 : decode cX5_isSame 109 = .ok (.iload 8, 2) := by decide +kernel
theorem dX5_isSame_111 : decode cX5_isSame 111 = .ok (.iconst 5, 1) := by decide +kernel
theorem dX5_isSame_112 : decode cX5_isSame 112 = .ok (.if_icmp .ge 26, 3) := by decide +kernel
theorem dX5_isSame_115 : decode cX5_isSame 115 = .ok (.aload_n 1, 1) := by decide +kernel
theorem dX5_isSame_116 : decode cX5_isSame 116 = .ok (.iload_n 3, 1) := by decide +kernel
theorem dX5_isSame_117 : decode cX5_isSame 117 = .ok (.iload 8, 2) := by decide +kernel
theorem dX5_isSame_119 : decode cX5_isSame 119 = .ok (.invokevirtual 103, 3) := by decide +kernel
theorem dX5_isSame_122 : decode cX5_isSame 122 = .ok (.aload 7, 2) := by decide +kernel
theorem dX5_isSame_124 : decode cX5_isSame 124 = .ok (.iload 8, 2) := by decide +kernel
theorem dX5_isSame_126 : decode cX5_isSame 126 = .ok (.iaload, 1) := by decide +kernel
theorem dX5_isSame_127 : decode cX5_isSame 127 = .ok (.if_icmp .eq 5, 3) := by decide +kernel
theorem dX5_isSame_130 : decode cX5_isSame 130 = .ok (.iconst 0, 1) := by decide +kernel
theorem dX5_isSame_131 : decode cX5_isSame 131 = .ok (.ireturn, 1) := by decide +kernel
theorem dX5_isSame_132 : decode cX5_isSame 132 = .ok (.iinc 8 1, 3) := by decide +kernel
theorem dX5_isSame_135 : decode cX5_isSame 135 = .ok (.goto (-26), 3) := by decide +kernel
theorem dX5_isSame_138 : decode cX5_isSame 138 = .ok (.aload_n 1, 1) := by decide +kernel
theorem dX5_isSame_139 : decode cX5_isSame 139 = .ok (.iload 4, 2) := by decide +kernel
theorem dX5_isSame_141 : decode cX5_isSame 141 = .ok (.iload 5, 2) := by decide +kernel
theorem dX5_isSame_143 : decode cX5_isSame 143 = .ok (.invokevirtual 109, 3) := by decide +kernel
theorem dX5_isSame_146 : decode cX5_isSame 146 = .ok (.iload_n 3, 1) := by decide +kernel
theorem dX5_isSame_147 : decode cX5_isSame 147 = .ok (.if_icmp .eq 5, 3) := by decide +kernel
theorem dX5_isSame_150 : decode cX5_isSame 150 = .ok (.iconst 0, 1) := by decide +kernel
theorem dX5_isSame_151 : decode cX5_isSame 151 = .ok (.ireturn, 1) := by decide +kernel
theorem dX5_isSame_152 : decode cX5_isSame 152 = .ok (.iload_n 2, 1) := by decide +kernel
theorem dX5_isSame_153 : decode cX5_isSame 153 = .ok (.aload 6, 2) := by decide +kernel
theorem dX5_isSame_155 : decode cX5_isSame 155 = .ok (.getfield 80, 3) := by decide +kernel
theorem dX5_isSame_158 : decode cX5_isSame 158 = .ok (.iadd, 1) := by decide +kernel
theorem dX5_isSame_159 : decode cX5_isSame 159 = .ok (.istore_n 2, 1) := by decide +kernel
theorem dX5_isSame_160 : decode cX5_isSame 160 = .ok (.iinc 5 1, 3) := by decide +kernel
theorem dX5_isSame_163 : decode cX5_isSame 163 = .ok (.goto (-141), 3) := by decide +kernel
theorem dX5_isSame_166 : decode cX5_isSame 166 = .ok (.iinc 4 1, 3) := by decide +kernel
theorem dX5_isSame_169 : decode cX5_isSame 169 = .ok (.goto (-156), 3) := by decide +kernel
theorem dX5_isSame_172 : decode cX5_isSame 172 = .ok (.aload_n 0, 1) := by decide +kernel
theorem dX5_isSame_173 : decode cX5_isSame 173 = .ok (.iload_n 3, 1) := by decide +kernel
theorem dX5_isSame_174 : decode cX5_isSame 174 = .ok (.invokevirtual 76, 3) := by decide +kernel
theorem dX5_isSame_177 : decode cX5_isSame 177 = .ok (.ifnonnull 31, 3) := by decide +kernel
theorem dX5_isSame_180 : decode cX5_isSame 180 = .ok (.iconst 0, 1) := by decide +kernel
theorem dX5_isSame_181 : decode cX5_isSame 181 = .ok (.istore 4, 2) := by decide +kernel
theorem dX5_isSame_183 : decode cX5_isSame 183 = .ok (.iload 4, 2) := by decide +kernel
theorem dX5_isSame_185 : decode cX5_isSame 185 = .ok (.iconst 5, 1) := by decide +kernel
theorem dX5_isSame_186 : decode cX5_isSame 186 = .ok (.if_icmp .ge 22, 3) := by decide +kernel
theorem dX5_isSame_189 : decode cX5_isSame 189 = .ok (.aload_n 1, 1) := by decide +kernel
theorem dX5_isSame_190 : decode cX5_isSame 190 = .ok (.iload_n 3, 1) := by decide +kernel
theorem dX5_isSame_191 : decode cX5_isSame 191 = .ok (.iload 4, 2) := by decide +kernel
theorem dX5_isSame_193 : decode cX5_isSame 193 = .ok (.invokevirtual 103, 3) := by decide +kernel
theorem dX5_isSame_196 : decode cX5_isSame 196 = .ok (.iconst (-1), 1) := by decide +kernel
theorem dX5_isSame_197 : decode cX5_isSame 197 = .ok (.if_icmp .eq 5, 3) := by decide +kernel
theorem dX5_isSame_200 : decode cX5_isSame 200 = .ok (.iconst 0, 1) := by decide +kernel
theorem dX5_isSame_201 : decode cX5_isSame 201 = .ok (.ireturn, 1) := by decide +kernel
theorem dX5_isSame_202 : decode cX5_isSame 202 = .ok (.iinc 4 1, 3) := by decide +kernel
theorem dX5_isSame_205 : decode cX5_isSame 205 = .ok (.goto (-22), 3) := by decide +kernel
theorem dX5_isSame_208 : decode cX5_isSame 208 = .ok (.iinc 3 1, 3) := by decide +kernel
theorem dX5_isSame_211 : decode cX5_isSame 211 = .ok (.goto (-207), 3) := by decide +kernel
theorem dX5_isSame_214 : decode cX5_isSame 214 = .ok (.iconst 0, 1) := by decide +kernel
theorem dX5_isSame_215 : decode cX5_isSame 215 = .ok (.istore_n 3, 1) := by decide +kernel
theorem dX5_isSame_216 : decode cX5_isSame 216 = .ok (.iload_n 3, 1) := by decide +kernel
theorem dX5_isSame_217 : decode cX5_isSame 217 = .ok (.iconst 2, 1) := by decide +kernel
theorem dX5_isSame_218 : decode cX5_isSame 218 = .ok (.if_icmp .ge 51, 3) := by decide +kernel
theorem dX5_isSame_221 : decode cX5_isSame 221 = .ok (.iconst 0, 1) := by decide +kernel
theorem dX5_isSame_222 : decode cX5_isSame 222 = .ok (.istore 4, 2) := by decide +kernel
theorem dX5_isSame_224 : decode cX5_isSame 224 = .ok (.iload 4, 2) := by decide +kernel
theorem dX5_isSame_226 : decode cX5_isSame 226 = .ok (.aload_n 0, 1) := by decide +kernel
theorem dX5_isSame_227 : decode cX5_isSame 227 = .ok (.getfield 23, 3) := by decide +kernel
theorem dX5_isSame_230 : decode cX5_isSame 230 = .ok (.iload_n 3, 1) := by decide +kernel
theorem dX5_isSame_231 : decode cX5_isSame 231 = .ok (.aaload, 1) := by decide +kernel
theorem dX5_isSame_232 : decode cX5_isSame 232 = .ok (.arraylength, 1) := by decide +kernel
theorem dX5_isSame_233 : decode cX5_isSame 233 = .ok (.if_icmp .ge 30, 3) := by decide +kernel
theorem dX5_isSame_236 : decode cX5_isSame 236 = .ok (.aload_n 1, 1) := by decide +kernel
theorem dX5_isSame_237 : decode cX5_isSame 237 = .ok (.iload_n 3, 1) := by decide +kernel
theorem dX5_isSame_238 : decode cX5_isSame 238 = .ok (.iload 4, 2) := by decide +kernel
theorem dX5_isSame_240 : decode cX5_isSame 240 = .ok (.invokevirtual 112, 3) := by decide +kernel
theorem dX5_isSame_243 : decode cX5_isSame 243 = .ok (.aload_n 0, 1) := by decide +kernel
theorem dX5_isSame_244 : decode cX5_isSame 244 = .ok (.getfield 23, 3) := by decide +kernel
theorem dX5_isSame_247 : decode cX5_isSame 247 = .ok (.iload_n 3, 1) := by decide +kernel
theorem dX5_isSame_248 : decode cX5_isSame 248 = .ok (.aaload, 1) := by decide +kernel
theorem dX5_isSame_249 : decode cX5_isSame 249 = .ok (.iload 4, 2) := by decide +kernel
theorem dX5_isSame_251 : decode cX5_isSame 251 = .ok (.iaload, 1) := by decide +kernel
theorem dX5_isSame_252 : decode cX5_isSame 252 = .ok (.if_icmp .eq 5, 3) := by decide +kernel
theorem dX5_isSame_255 : decode cX5_isSame 255 = .ok (.iconst 0, 1) := by decide +kernel
theorem dX5_isSame_256 : decode cX5_isSame 256 = .ok (.ireturn, 1) := by decide +kernel
theorem dX5_isSame_257 : decode cX5_isSame 257 = .ok (.iinc 4 1, 3) := by decide +kernel
theorem dX5_isSame_260 : decode cX5_isSame 260 = .ok (.goto (-36), 3) := by decide +kernel
theorem dX5_isSame_263 : decode cX5_isSame 263 = .ok (.iinc 3 1, 3) := by decide +kernel
theorem dX5_isSame_266 : decode cX5_isSame 266 = .ok (.goto (-50), 3) := by decide +kernel
theorem dX5_isSame_269 : decode cX5_isSame 269 = .ok (.bipush 11, 2) := by decide +kernel
theorem dX5_isSame_271 : decode cX5_isSame 271 = .ok (.newarray .int, 2) := by decide +kernel
theorem dX5_isSame_273 : decode cX5_isSame 273 = .ok (.dup, 1) := by decide +kernel
theorem dX5_isSame_274 : decode cX5_isSame 274 = .ok (.iconst 0, 1) := by decide +kernel
theorem dX5_isSame_275 : decode cX5_isSame 275 = .ok (.aload_n 0, 1) := by decide +kernel
theorem dX5_isSame_276 : decode cX5_isSame 276 = .ok (.getfield 7, 3) := by decide +kernel
theorem dX5_isSame_279 : decode cX5_isSame 279 = .ok (.iastore, 1) := by decide +kernel
theorem dX5_isSame_280 : decode cX5_isSame 280 = .ok (.dup, 1) := by decide +kernel
theorem dX5_isSame_281 : decode cX5_isSame 281 = .ok (.iconst 1, 1) := by decide +kernel
theorem dX5_isSame_282 : decode cX5_isSame 282 = .ok (.aload_n 0, 1) := by decide +kernel
theorem dX5_isSame_283 : decode cX5_isSame 283 = .ok (.getfield 17, 3) := by decide +kernel
theorem dX5_isSame_286 : decode cX5_isSame 286 = .ok (.iconst 0, 1) := by decide +kernel
theorem dX5_isSame_287 : decode cX5_isSame 287 = .ok (.aaload, 1) := by decide +kernel
theorem dX5_isSame_288 : decode cX5_isSame 288 = .ok (.arraylength, 1) := by decide +kernel
theorem dX5_isSame_289 : decode cX5_isSame 289 = .ok (.iastore, 1) := by decide +kernel
theorem dX5_isSame_290 : decode cX5_isSame 290 = .ok (.dup, 1) := by decide +kernel
theorem dX5_isSame_291 : decode cX5_isSame 291 = .ok (.iconst 2, 1) := by decide +kernel
theorem dX5_isSame_292 : decode cX5_isSame 292 = .ok (.aload_n 0, 1) := by decide +kernel
theorem dX5_isSame_293 : decode cX5_isSame 293 = .ok (.getfield 17, 3) := by decide +kernel
theorem dX5_isSame_296 : decode cX5_isSame 296 = .ok (.iconst 1, 1) := by decide +kernel
theorem dX5_isSame_297 : decode cX5_isSame 297 = .ok (.aaload, 1) := by decide +kernel
theorem dX5_isSame_298 : decode cX5_isSame 298 = .ok (.arraylength, 1) := by decide +kernel
theorem dX5_isSame_299 : decode cX5_isSame 299 = .ok (.iastore, 1) := by decide +kernel
theorem dX5_isSame_300 : decode cX5_isSame 300 = .ok (.dup, 1) := by decide +kernel
theorem dX5_isSame_301 : decode cX5_isSame 301 = .ok (.iconst 3, 1) := by decide +kernel
theorem dX5_isSame_302 : decode cX5_isSame 302 = .ok (.aload_n 0, 1) := by decide +kernel
theorem dX5_isSame_303 : decode cX5_isSame 303 = .ok (.getfield 23, 3) := by decide +kernel
theorem dX5_isSame_306 : decode cX5_isSame 306 = .ok (.iconst 0, 1) := by decide +kernel
theorem dX5_isSame_307 : decode cX5_isSame 307 = .ok (.aaload, 1) := by decide +kernel
theorem dX5_isSame_308 : decode cX5_isSame 308 = .ok (.arraylength, 1) := by decide +kernel
theorem dX5_isSame_309 : decode cX5_isSame 309 = .ok (.iastore, 1) := by decide +kernel
theorem dX5_isSame_310 : decode cX5_isSame 310 = .ok (.dup, 1) := by decide +kernel
theorem dX5_isSame_311 : decode cX5_isSame 311 = .ok (.iconst 4, 1) := by decide +kernel
theorem dX5_isSame_312 : decode cX5_isSame 312 = .ok (.aload_n 0, 1) := by decide +kernel
theorem dX5_isSame_313 : decode cX5_isSame 313 = .ok (.getfield 23, 3) := by decide +kernel
theorem dX5_isSame_316 : decode cX5_isSame 316 = .ok (.iconst 1, 1) := by decide +kernel
theorem dX5_isSame_317 : decode cX5_isSame 317 = .ok (.aaload, 1) := by decide +kernel
theorem dX5_isSame_318 : decode cX5_isSame 318 = .ok (.arraylength, 1) := by decide +kernel
theorem dX5_isSame_319 : decode cX5_isSame 319 = .ok (.iastore, 1) := by decide +kernel
theorem dX5_isSame_320 : decode cX5_isSame 320 = .ok (.dup, 1) := by decide +kernel
theorem dX5_isSame_321 : decode cX5_isSame 321 = .ok (.iconst 5, 1) := by decide +kernel
theorem dX5_isSame_322 : decode cX5_isSame 322 = .ok (.aload_n 0, 1) := by decide +kernel
theorem dX5_isSame_323 : decode cX5_isSame 323 = .ok (.getfield 28, 3) := by decide +kernel
theorem dX5_isSame_326 : decode cX5_isSame 326 = .ok (.iastore, 1) := by decide +kernel
theorem dX5_isSame_327 : decode cX5_isSame 327 = .ok (.dup, 1) := by decide +kernel
theorem dX5_isSame_328 : decode cX5_isSame 328 = .ok (.bipush 6, 2) := by decide +kernel
theorem dX5_isSame_330 : decode cX5_isSame 330 = .ok (.aload_n 0, 1) := by decide +kernel
theorem dX5_isSame_331 : decode cX5_isSame 331 = .ok (.getfield 31, 3) := by decide +kernel
theorem dX5_isSame_334 : decode cX5_isSame 334 = .ok (.iastore, 1) := by decide +kernel
theorem dX5_isSame_335 : decode cX5_isSame 335 = .ok (.dup, 1) := by decide +kernel
theorem dX5_isSame_336 : decode cX5_isSame 336 = .ok (.bipush 7, 2) := by decide +kernel
theorem dX5_isSame_338 : decode cX5_isSame 338 = .ok (.aload_n 0, 1) := by decide +kernel
theorem dX5_isSame_339 : decode cX5_isSame 339 = .ok (.getfield 34, 3) := by decide +kernel
theorem dX5_isSame_342 : decode cX5_isSame 342 = .ok (.iastore, 1) := by decide +kernel
theorem dX5_isSame_343 : decode cX5_isSame 343 = .ok (.dup, 1) := by decide +kernel
theorem dX5_isSame_344 : decode cX5_isSame 344 = .ok (.bipush 8, 2) := by decide +kernel
theorem dX5_isSame_346 : decode cX5_isSame 346 = .ok (.aload_n 0, 1) := by decide +kernel
theorem dX5_isSame_347 : decode cX5_isSame 347 = .ok (.getfield 37, 3) := by decide +kernel
theorem dX5_isSame_350 : decode cX5_isSame 350 = .ok (.iastore, 1) := by decide +kernel
theorem dX5_isSame_351 : decode cX5_isSame 351 = .ok (.dup, 1) := by decide +kernel
theorem dX5_isSame_352 : decode cX5_isSame 352 = .ok (.bipush 9, 2) := by decide +kernel
theorem dX5_isSame_354 : decode cX5_isSame 354 = .ok (.aload_n 0, 1) := by decide +kernel
theorem dX5_isSame_355 : decode cX5_isSame 355 = .ok (.getfield 40, 3) := by decide +kernel
theorem dX5_isSame_358 : decode cX5_isSame 358 = .ok (.iastore, 1) := by decide +kernel
theorem dX5_isSame_359 : decode cX5_isSame 359 = .ok (.dup, 1) := by decide +kernel
theorem dX5_isSame_360 : decode cX5_isSame 360 = .ok (.bipush 10, 2) := by decide +kernel
theorem dX5_isSame_362 : decode cX5_isSame 362 = .ok (.aload_n 0, 1) := by decide +kernel
theorem dX5_isSame_363 : decode cX5_isSame 363 = .ok (.invokevirtual 87, 3) := by decide +kernel
theorem dX5_isSame_366 : decode cX5_isSame 366 = .ok (.iastore, 1) := by decide +kernel
theorem dX5_isSame_367 : decode cX5_isSame 367 = .ok (.astore_n 3, 1) := by decide +kernel
theorem dX5_isSame_368 : decode cX5_isSame 368 = .ok (.iconst 0, 1) := by decide +kernel
theorem dX5_isSame_369 : decode cX5_isSame 369 = .ok (.istore 4, 2) := by decide +kernel
theorem dX5_isSame_371 : decode cX5_isSame 371 = .ok (.iload 4, 2) := by decide +kernel
theorem dX5_isSame_373 : decode cX5_isSame 373 = .ok (.bipush 11, 2) := by decide +kernel
theorem dX5_isSame_375 : decode cX5_isSame 375 = .ok (.if_icmp .ge 24, 3) := by decide +kernel
theorem dX5_isSame_378 : decode cX5_isSame 378 = .ok (.aload_n 1, 1) := by decide +kernel
theorem dX5_isSame_379 : decode cX5_isSame 379 = .ok (.iload 4, 2) := by decide +kernel
theorem dX5_isSame_381 : decode cX5_isSame 381 = .ok (.invokevirtual 115, 3) := by decide +kernel
theorem dX5_isSame_384 : decode cX5_isSame 384 = .ok (.aload_n 3, 1) := by decide +kernel
theorem dX5_isSame_385 : decode cX5_isSame 385 = .ok (.iload 4, 2) := by decide +kernel
theorem dX5_isSame_387 : decode cX5_isSame 387 = .ok (.iaload, 1) := by decide +kernel
theorem dX5_isSame_388 : decode cX5_isSame 388 = .ok (.if_icmp .eq 5, 3) := by decide +kernel
theorem dX5_isSame_391 : decode cX5_isSame 391 = .ok (.iconst 0, 1) := by decide +kernel
theorem dX5_isSame_392 : decode cX5_isSame 392 = .ok (.ireturn, 1) := by decide +kernel
theorem dX5_isSame_393 : decode cX5_isSame 393 = .ok (.iinc 4 1, 3) := by decide +kernel
theorem dX5_isSame_396 : decode cX5_isSame 396 = .ok (.goto (-25), 3) := by decide +kernel
theorem dX5_isSame_399 : decode cX5_isSame 399 = .ok (.aload_n 1, 1) := by decide +kernel
theorem dX5_isSame_400 : decode cX5_isSame 400 = .ok (.invokevirtual 118, 3) := by decide +kernel
theorem dX5_isSame_403 : decode cX5_isSame 403 = .ok (.aload_n 0, 1) := by decide +kernel
theorem dX5_isSame_404 : decode cX5_isSame 404 = .ok (.invokevirtual 83, 3) := by decide +kernel
theorem dX5_isSame_407 : decode cX5_isSame 407 = .ok (.ifCond .ne 7, 3) := by decide +kernel
theorem dX5_isSame_410 : decode cX5_isSame 410 = .ok (.dconst 0, 1) := by decide +kernel
theorem dX5_isSame_411 : decode cX5_isSame 411 = .ok (.goto 11, 3) := by decide +kernel
theorem dX5_isSame_414 : decode cX5_isSame 414 = .ok (.iload_n 2, 1) := by decide +kernel
theorem dX5_isSame_415 : decode cX5_isSame 415 = .ok (.i2d, 1) := by decide +kernel
theorem dX5_isSame_416 : decode cX5_isSame 416 = .ok (.aload_n 0, 1) := by decide +kernel
theorem dX5_isSame_417 : decode cX5_isSame 417 = .ok (.invokevirtual 83, 3) := by decide +kernel
theorem dX5_isSame_420 : decode cX5_isSame 420 = .ok (.i2d, 1) := by decide +kernel
theorem dX5_isSame_421 : decode cX5_isSame 421 = .ok (.ddiv, 1) := by decide +kernel
theorem dX5_isSame_422 : decode cX5_isSame 422 = .ok (.dcmp .l, 1) := by decide +kernel
theorem dX5_isSame_423 : decode cX5_isSame 423 = .ok (.ifCond .ne 7, 3) := by decide +kernel
theorem dX5_isSame_426 : decode cX5_isSame 426 = .ok (.iconst 1, 1) := by decide +kernel
theorem dX5_isSame_427 : decode cX5_isSame 427 = .ok (.goto 4, 3) := by decide +kernel
theorem dX5_isSame_430 : decode cX5_isSame 430 = .ok (.iconst 0, 1) := by decide +kernel
theorem dX5_isSame_431 : decode cX5_isSame 431 = .ok (.ireturn, 1) := by decide +kernel
theorem dL_below_0 : decode cL_below 0 = .ok (.iload_n 0, 1) := by decide +kernel
theorem dL_below_1 : decode cL_below 1 = .ok (.ldc 7, 2) := by decide +kernel
theorem dL_below_3 : decode cL_below 3 = .ok (.iand, 1) := by decide +kernel
theorem dL_below_4 : decode cL_below 4 = .ok (.iload_n 1, 1) := by decide +kernel
theorem dL_below_5 : decode cL_below 5 = .ok (.irem, 1) := by decide +kernel
theorem dL_below_6 : decode cL_below 6 = .ok (.ireturn, 1) := by decide +kernel
theorem dL_cell_0 : decode cL_cell 0 = .ok (.iload_n 1, 1) := by decide +kernel
theorem dL_cell_1 : decode cL_cell 1 = .ok (.aload_n 0, 1) := by decide +kernel
theorem dL_cell_2 : decode cL_cell 2 = .ok (.arraylength, 1) := by decide +kernel
theorem dL_cell_3 : decode cL_cell 3 = .ok (.if_icmp .ge 9, 3) := by decide +kernel
theorem dL_cell_6 : decode cL_cell 6 = .ok (.aload_n 0, 1) := by decide +kernel
theorem dL_cell_7 : decode cL_cell 7 = .ok (.iload_n 1, 1) := by decide +kernel
theorem dL_cell_8 : decode cL_cell 8 = .ok (.iaload, 1) := by decide +kernel
theorem dL_cell_9 : decode cL_cell 9 = .ok (.goto 9, 3) := by decide +kernel
theorem dL_cell_12 : decode cL_cell 12 = .ok (.ldc 8, 2) := by decide +kernel
theorem dL_cell_14 : decode cL_cell 14 = .ok (.iload_n 1, 1) := by decide +kernel
theorem dL_cell_15 : decode cL_cell 15 = .ok (.iconst 3, 1) := by decide +kernel
theorem dL_cell_16 : decode cL_cell 16 = .ok (.iadd, 1) := by decide +kernel
theorem dL_cell_17 : decode cL_cell 17 = .ok (.imul, 1) := by decide +kernel
theorem dL_cell_18 : decode cL_cell 18 = .ok (.ireturn, 1) := by decide +kernel
theorem dL_with_0 : decode cL_with 0 = .ok (.aload_n 0, 1) := by decide +kernel
theorem dL_with_1 : decode cL_with 1 = .ok (.arraylength, 1) := by decide +kernel
theorem dL_with_2 : decode cL_with 2 = .ok (.iconst 1, 1) := by decide +kernel
theorem dL_with_3 : decode cL_with 3 = .ok (.iadd, 1) := by decide +kernel
theorem dL_with_4 : decode cL_with 4 = .ok (.anewarray 9, 3) := by decide +kernel
theorem dL_with_7 : decode cL_with 7 = .ok (.astore_n 2, 1) := by decide +kernel
theorem dL_with_8 : decode cL_with 8 = .ok (.iconst 0, 1) := by decide +kernel
theorem dL_with_9 : decode cL_with 9 = .ok (.istore_n 3, 1) := by decide +kernel
theorem dL_with_10 : decode cL_with 10 = .ok (.iload_n 3, 1) := by decide +kernel
theorem dL_with_11 : decode cL_with 11 = .ok (.aload_n 0, 1) := by decide +kernel
theorem dL_with_12 : decode cL_with 12 = .ok (.arraylength, 1) := by decide +kernel
theorem dL_with_13 : decode cL_with 13 = .ok (.if_icmp .ge 15, 3) := by decide +kernel
theorem dL_with_16 : decode cL_with 16 = .ok (.aload_n 2, 1) := by decide +kernel
theorem dL_with_17 : decode cL_with 17 = .ok (.iload_n 3, 1) := by decide +kernel
theorem dL_with_18 : decode cL_with 18 = .ok (.aload_n 0, 1) := by decide +kernel
theorem dL_with_19 : decode cL_with 19 = .ok (.iload_n 3, 1) := by decide +kernel
theorem dL_with_20 : decode cL_with 20 = .ok (.aaload, 1) := by decide +kernel
theorem dL_with_21 : decode cL_with 21 = .ok (.aastore, 1) := by decide +kernel
theorem dL_with_22 : decode cL_with 22 = .ok (.iinc 3 1, 3) := by decide +kernel
theorem dL_with_25 : decode cL_with 25 = .ok (.goto (-15), 3) := by decide +kernel
theorem dL_with_28 : decode cL_with 28 = .ok (.aload_n 2, 1) := by decide +kernel
theorem dL_with_29 : decode cL_with 29 = .ok (.aload_n 0, 1) := by decide +kernel
theorem dL_with_30 : decode cL_with 30 = .ok (.arraylength, 1) := by decide +kernel
theorem dL_with_31 : decode cL_with 31 = .ok (.aload_n 1, 1) := by decide +kernel
theorem dL_with_32 : decode cL_with 32 = .ok (.aastore, 1) := by decide +kernel
theorem dL_with_33 : decode cL_with 33 = .ok (.aload_n 2, 1) := by decide +kernel
theorem dL_with_34 : decode cL_with 34 = .ok (.areturn, 1) := by decide +kernel
theorem dL_without_0 : decode cL_without 0 = .ok (.aload_n 0, 1) := by decide +kernel
theorem dL_without_1 : decode cL_without 1 = .ok (.arraylength, 1) := by decide +kernel
theorem dL_without_2 : decode cL_without 2 = .ok (.iconst 1, 1) := by decide +kernel
theorem dL_without_3 : decode cL_without 3 = .ok (.isub, 1) := by decide +kernel
theorem dL_without_4 : decode cL_without 4 = .ok (.anewarray 9, 3) := by decide +kernel
theorem dL_without_7 : decode cL_without 7 = .ok (.astore_n 2, 1) := by decide +kernel
theorem dL_without_8 : decode cL_without 8 = .ok (.iconst 0, 1) := by decide +kernel
theorem dL_without_9 : decode cL_without 9 = .ok (.istore_n 3, 1) := by decide +kernel
theorem dL_without_10 : decode cL_without 10 = .ok (.iload_n 3, 1) := by decide +kernel
theorem dL_without_11 : decode cL_without 11 = .ok (.aload_n 2, 1) := by decide +kernel
theorem dL_without_12 : decode cL_without 12 = .ok (.arraylength, 1) := by decide +kernel
theorem dL_without_13 : decode cL_without 13 = .ok (.if_icmp .ge 26, 3) := by decide +kernel
theorem dL_without_16 : decode cL_without 16 = .ok (.aload_n 2, 1) := by decide +kernel
theorem dL_without_17 : decode cL_without 17 = .ok (.iload_n 3, 1) := by decide +kernel
theorem dL_without_18 : decode cL_without 18 = .ok (.aload_n 0, 1) := by decide +kernel
theorem dL_without_19 : decode cL_without 19 = .ok (.iload_n 3, 1) := by decide +kernel
theorem dL_without_20 : decode cL_without 20 = .ok (.iload_n 1, 1) := by decide +kernel
theorem dL_without_21 : decode cL_without 21 = .ok (.if_icmp .ge 7, 3) := by decide +kernel
theorem dL_without_24 : decode cL_without 24 = .ok (.iload_n 3, 1) := by decide +kernel
theorem dL_without_25 : decode cL_without 25 = .ok (.goto 6, 3) := by decide +kernel
theorem dL_without_28 : decode cL_without 28 = .ok (.iload_n 3, 1) := by decide +kernel
theorem dL_without_29 : decode cL_without 29 = .ok (.iconst 1, 1) := by decide +kernel
theorem dL_without_30 : decode cL_without 30 = .ok (.iadd, 1) := by decide +kernel
theorem dL_without_31 : decode cL_without 31 = .ok (.aaload, 1) := by decide +kernel
theorem dL_without_32 : decode cL_without 32 = .ok (.aastore, 1) := by decide +kernel
theorem dL_without_33 : decode cL_without 33 = .ok (.iinc 3 1, 3) := by decide +kernel
theorem dL_without_36 : decode cL_without 36 = .ok (.goto (-26), 3) := by decide +kernel
theorem dL_without_39 : decode cL_without 39 = .ok (.aload_n 2, 1) := by decide +kernel
theorem dL_without_40 : decode cL_without 40 = .ok (.areturn, 1) := by decide +kernel
theorem dL_with__0 : decode cL_with_ 0 = .ok (.aload_n 0, 1) := by decide +kernel
theorem dL_with__1 : decode cL_with_ 1 = .ok (.arraylength, 1) := by decide +kernel
theorem dL_with__2 : decode cL_with_ 2 = .ok (.iconst 1, 1) := by decide +kernel
theorem dL_with__3 : decode cL_with_ 3 = .ok (.iadd, 1) := by decide +kernel
theorem dL_with__4 : decode cL_with_ 4 = .ok (.newarray .int, 2) := by decide +kernel
theorem dL_with__6 : decode cL_with_ 6 = .ok (.astore_n 2, 1) := by decide +kernel
theorem dL_with__7 : decode cL_with_ 7 = .ok (.iconst 0, 1) := by decide +kernel
theorem dL_with__8 : decode cL_with_ 8 = .ok (.istore_n 3, 1) := by decide +kernel
theorem dL_with__9 : decode cL_with_ 9 = .ok (.iload_n 3, 1) := by decide +kernel
theorem dL_with__10 : decode cL_with_ 10 = .ok (.aload_n 0, 1) := by decide +kernel
theorem dL_with__11 : decode cL_with_ 11 = .ok (.arraylength, 1) := by decide +kernel
theorem dL_with__12 : decode cL_with_ 12 = .ok (.if_icmp .ge 15, 3) := by decide +kernel
theorem dL_with__15 : decode cL_with_ 15 = .ok (.aload_n 2, 1) := by decide +kernel
theorem dL_with__16 : decode cL_with_ 16 = .ok (.iload_n 3, 1) := by decide +kernel
theorem dL_with__17 : decode cL_with_ 17 = .ok (.aload_n 0, 1) := by decide +kernel
theorem dL_with__18 : decode cL_with_ 18 = .ok (.iload_n 3, 1) := by decide +kernel
theorem dL_with__19 : decode cL_with_ 19 = .ok (.iaload, 1) := by decide +kernel
theorem dL_with__20 : decode cL_with_ 20 = .ok (.iastore, 1) := by decide +kernel
theorem dL_with__21 : decode cL_with_ 21 = .ok (.iinc 3 1, 3) := by decide +kernel
theorem dL_with__24 : decode cL_with_ 24 = .ok (.goto (-15), 3) := by decide +kernel
theorem dL_with__27 : decode cL_with_ 27 = .ok (.aload_n 2, 1) := by decide +kernel
theorem dL_with__28 : decode cL_with_ 28 = .ok (.aload_n 0, 1) := by decide +kernel
theorem dL_with__29 : decode cL_with_ 29 = .ok (.arraylength, 1) := by decide +kernel
theorem dL_with__30 : decode cL_with_ 30 = .ok (.iload_n 1, 1) := by decide +kernel
theorem dL_with__31 : decode cL_with_ 31 = .ok (.iastore, 1) := by decide +kernel
theorem dL_with__32 : decode cL_with_ 32 = .ok (.aload_n 2, 1) := by decide +kernel
theorem dL_with__33 : decode cL_with_ 33 = .ok (.areturn, 1) := by decide +kernel
theorem dL_without__0 : decode cL_without_ 0 = .ok (.aload_n 0, 1) := by decide +kernel
theorem dL_without__1 : decode cL_without_ 1 = .ok (.arraylength, 1) := by decide +kernel
theorem dL_without__2 : decode cL_without_ 2 = .ok (.iconst 1, 1) := by decide +kernel
theorem dL_without__3 : decode cL_without_ 3 = .ok (.isub, 1) := by decide +kernel
theorem dL_without__4 : decode cL_without_ 4 = .ok (.newarray .int, 2) := by decide +kernel
theorem dL_without__6 : decode cL_without_ 6 = .ok (.astore_n 2, 1) := by decide +kernel
theorem dL_without__7 : decode cL_without_ 7 = .ok (.iconst 0, 1) := by decide +kernel
theorem dL_without__8 : decode cL_without_ 8 = .ok (.istore_n 3, 1) := by decide +kernel
theorem dL_without__9 : decode cL_without_ 9 = .ok (.iload_n 3, 1) := by decide +kernel
theorem dL_without__10 : decode cL_without_ 10 = .ok (.aload_n 2, 1) := by decide +kernel
theorem dL_without__11 : decode cL_without_ 11 = .ok (.arraylength, 1) := by decide +kernel
theorem dL_without__12 : decode cL_without_ 12 = .ok (.if_icmp .ge 26, 3) := by decide +kernel
theorem dL_without__15 : decode cL_without_ 15 = .ok (.aload_n 2, 1) := by decide +kernel
theorem dL_without__16 : decode cL_without_ 16 = .ok (.iload_n 3, 1) := by decide +kernel
theorem dL_without__17 : decode cL_without_ 17 = .ok (.aload_n 0, 1) := by decide +kernel
theorem dL_without__18 : decode cL_without_ 18 = .ok (.iload_n 3, 1) := by decide +kernel
theorem dL_without__19 : decode cL_without_ 19 = .ok (.iload_n 1, 1) := by decide +kernel
theorem dL_without__20 : decode cL_without_ 20 = .ok (.if_icmp .ge 7, 3) := by decide +kernel
theorem dL_without__23 : decode cL_without_ 23 = .ok (.iload_n 3, 1) := by decide +kernel
theorem dL_without__24 : decode cL_without_ 24 = .ok (.goto 6, 3) := by decide +kernel
theorem dL_without__27 : decode cL_without_ 27 = .ok (.iload_n 3, 1) := by decide +kernel
theorem dL_without__28 : decode cL_without_ 28 = .ok (.iconst 1, 1) := by decide +kernel
theorem dL_without__29 : decode cL_without_ 29 = .ok (.iadd, 1) := by decide +kernel
theorem dL_without__30 : decode cL_without_ 30 = .ok (.iaload, 1) := by decide +kernel
theorem dL_without__31 : decode cL_without_ 31 = .ok (.iastore, 1) := by decide +kernel
theorem dL_without__32 : decode cL_without_ 32 = .ok (.iinc 3 1, 3) := by decide +kernel
theorem dL_without__35 : decode cL_without_ 35 = .ok (.goto (-26), 3) := by decide +kernel
theorem dL_without__38 : decode cL_without_ 38 = .ok (.aload_n 2, 1) := by decide +kernel
theorem dL_without__39 : decode cL_without_ 39 = .ok (.areturn, 1) := by decide +kernel
theorem dL_fetch_0 : decode cL_fetch 0 = .ok (.aload_n 0, 1) := by decide +kernel
theorem dL_fetch_1 : decode cL_fetch 1 = .ok (.iload_n 1, 1) := by decide +kernel
theorem dL_fetch_2 : decode cL_fetch 2 = .ok (.invokevirtual 11, 3) := by decide +kernel
theorem dL_fetch_5 : decode cL_fetch 5 = .ok (.ireturn, 1) := by decide +kernel
theorem dL_fetch_6 : decode cL_fetch 6 = .ok (.astore_n 2, 1) := by decide +kernel
theorem dL_fetch_7 : decode cL_fetch 7 = .ok (.bipush (-9), 2) := by decide +kernel
theorem dL_fetch_9 : decode cL_fetch 9 = .ok (.ireturn, 1) := by decide +kernel
theorem dL_act_0 : decode cL_act 0 = .ok (.iload_n 2, 1) := by decide +kernel
theorem dL_act_1 : decode cL_act 1 = .ok (.iconst 1, 1) := by decide +kernel
theorem dL_act_2 : decode cL_act 2 = .ok (.ishr, 1) := by decide +kernel
theorem dL_act_3 : decode cL_act 3 = .ok (.iload_n 2, 1) := by decide +kernel
theorem dL_act_4 : decode cL_act 4 = .ok (.iconst 5, 1) := by decide +kernel
theorem dL_act_5 : decode cL_act 5 = .ok (.ishr, 1) := by decide +kernel
theorem dL_act_6 : decode cL_act 6 = .ok (.iconst 3, 1) := by decide +kernel
theorem dL_act_7 : decode cL_act 7 = .ok (.invokestatic 19, 3) := by decide +kernel
theorem dL_act_10 : decode cL_act 10 = .ok (.ifCond .ne 8, 3) := by decide +kernel
theorem dL_act_13 : decode cL_act 13 = .ok (.bipush 40, 2) := by decide +kernel
theorem dL_act_15 : decode cL_act 15 = .ok (.goto 5, 3) := by decide +kernel
theorem dL_act_18 : decode cL_act 18 = .ok (.bipush 11, 2) := by decide +kernel
theorem dL_act_20 : decode cL_act 20 = .ok (.invokestatic 19, 3) := by decide +kernel
theorem dL_act_23 : decode cL_act 23 = .ok (.istore_n 3, 1) := by decide +kernel
theorem dL_act_24 : decode cL_act 24 = .ok (.aload_n 1, 1) := by decide +kernel
theorem dL_act_25 : decode cL_act 25 = .ok (.iload_n 3, 1) := by decide +kernel
theorem dL_act_26 : decode cL_act 26 = .ok (.invokevirtual 25, 3) := by decide +kernel
theorem dL_act_29 : decode cL_act 29 = .ok (.astore 4, 2) := by decide +kernel
theorem dL_act_31 : decode cL_act 31 = .ok (.iload_n 2, 1) := by decide +kernel
theorem dL_act_32 : decode cL_act 32 = .ok (.bipush 9, 2) := by decide +kernel
theorem dL_act_34 : decode cL_act 34 = .ok (.ishr, 1) := by decide +kernel
theorem dL_act_35 : decode cL_act 35 = .ok (.bipush 22, 2) := by decide +kernel
theorem dL_act_37 : decode cL_act 37 = .ok (.invokestatic 19, 3) := by decide +kernel
theorem dL_act_40 : decode cL_act 40 = .ok (.tableswitch 435 0 8 #[52, 52, 99, 99, 99, 187, 293, 345, 386], 52) := by decide +kernel
theorem dL_act_92 : decode cL_act 92 = .ok (.aload 4, 2) := by decide +kernel
theorem dL_act_94 : decode cL_act 94 = .ok (.ifnull 13, 3) := by decide +kernel
theorem dL_act_97 : decode cL_act 97 = .ok (.aload 4, 2) := by decide +kernel
theorem dL_act_99 : decode cL_act 99 = .ok (.getfield 31, 3) := by decide +kernel
theorem dL_act_102 : decode cL_act 102 = .ok (.bipush 9, 2) := by decide +kernel
theorem dL_act_104 : decode cL_act 104 = .ok (.if_icmp .ne 5, 3) := by decide +kernel
theorem dL_act_107 : decode cL_act 107 = .ok (.iconst 1, 1) := by decide +kernel
theorem dL_act_108 : decode cL_act 108 = .ok (.ireturn, 1) := by decide +kernel
theorem dL_act_109 : decode cL_act 109 = .ok (.aload 4, 2) := by decide +kernel
theorem dL_act_111 : decode cL_act 111 = .ok (.dup, 1) := by decide +kernel
theorem dL_act_112 : decode cL_act 112 = .ok (.getfield 31, 3) := by decide +kernel
theorem dL_act_115 : decode cL_act 115 = .ok (.iconst 1, 1) := by decide +kernel
theorem dL_act_116 : decode cL_act 116 = .ok (.iadd, 1) := by decide +kernel
theorem dL_act_117 : decode cL_act 117 = .ok (.putfield 31, 3) := by decide +kernel
theorem dL_act_120 : decode cL_act 120 = .ok (.aload_n 0, 1) := by decide +kernel
theorem dL_act_121 : decode cL_act 121 = .ok (.iload_n 3, 1) := by decide +kernel
theorem dL_act_122 : decode cL_act 122 = .ok (.invokevirtual 35, 3) := by decide +kernel
theorem dL_act_125 : decode cL_act 125 = .ok (.aload 4, 2) := by decide +kernel
theorem dL_act_127 : decode cL_act 127 = .ok (.getfield 31, 3) := by decide +kernel
theorem dL_act_130 : decode cL_act 130 = .ok (.if_icmp .ne 7, 3) := by decide +kernel
theorem dL_act_133 : decode cL_act 133 = .ok (.iconst 1, 1) := by decide +kernel
theorem dL_act_134 : decode cL_act 134 = .ok (.goto 4, 3) := by decide +kernel
theorem dL_act_137 : decode cL_act 137 = .ok (.iconst 0, 1) := by decide +kernel
theorem dL_act_138 : decode cL_act 138 = .ok (.ireturn, 1) := by decide +kernel
theorem dL_act_139 : decode cL_act 139 = .ok (.iconst 0, 1) := by decide +kernel
theorem dL_act_140 : decode cL_act 140 = .ok (.istore 5, 2) := by decide +kernel
theorem dL_act_142 : decode cL_act 142 = .ok (.iload 5, 2) := by decide +kernel
theorem dL_act_144 : decode cL_act 144 = .ok (.bipush 40, 2) := by decide +kernel
theorem dL_act_146 : decode cL_act 146 = .ok (.if_icmp .ge 36, 3) := by decide +kernel
theorem dL_act_149 : decode cL_act 149 = .ok (.aload 4, 2) := by decide +kernel
theorem dL_act_151 : decode cL_act 151 = .ok (.ifnull 11, 3) := by decide +kernel
theorem dL_act_154 : decode cL_act 154 = .ok (.aload 4, 2) := by decide +kernel
theorem dL_act_156 : decode cL_act 156 = .ok (.getfield 31, 3) := by decide +kernel
theorem dL_act_159 : decode cL_act 159 = .ok (.ifCond .ne 23, 3) := by decide +kernel
theorem dL_act_162 : decode cL_act 162 = .ok (.iload_n 3, 1) := by decide +kernel
theorem dL_act_163 : decode cL_act 163 = .ok (.iconst 1, 1) := by decide +kernel
theorem dL_act_164 : decode cL_act 164 = .ok (.iadd, 1) := by decide +kernel
theorem dL_act_165 : decode cL_act 165 = .ok (.bipush 40, 2) := by decide +kernel
theorem dL_act_167 : decode cL_act 167 = .ok (.irem, 1) := by decide +kernel
theorem dL_act_168 : decode cL_act 168 = .ok (.istore_n 3, 1) := by decide +kernel
theorem dL_act_169 : decode cL_act 169 = .ok (.aload_n 1, 1) := by decide +kernel
theorem dL_act_170 : decode cL_act 170 = .ok (.iload_n 3, 1) := by decide +kernel
theorem dL_act_171 : decode cL_act 171 = .ok (.invokevirtual 25, 3) := by decide +kernel
theorem dL_act_174 : decode cL_act 174 = .ok (.astore 4, 2) := by decide +kernel
theorem dL_act_176 : decode cL_act 176 = .ok (.iinc 5 1, 3) := by decide +kernel
theorem dL_act_179 : decode cL_act 179 = .ok (.goto (-37), 3) := by decide +kernel
theorem dL_act_182 : decode cL_act 182 = .ok (.aload 4, 2) := by decide +kernel
theorem dL_act_184 : decode cL_act 184 = .ok (.ifnull 11, 3) := by decide +kernel
theorem dL_act_187 : decode cL_act 187 = .ok (.aload 4, 2) := by decide +kernel
theorem dL_act_189 : decode cL_act 189 = .ok (.getfield 31, 3) := by decide +kernel
theorem dL_act_192 : decode cL_act 192 = .ok (.ifCond .ne 5, 3) := by decide +kernel
theorem dL_act_195 : decode cL_act 195 = .ok (.iconst 1, 1) := by decide +kernel
theorem dL_act_196 : decode cL_act 196 = .ok (.ireturn, 1) := by decide +kernel
theorem dL_act_197 : decode cL_act 197 = .ok (.aload 4, 2) := by decide +kernel
theorem dL_act_199 : decode cL_act 199 = .ok (.dup, 1) := by decide +kernel
theorem dL_act_200 : decode cL_act 200 = .ok (.getfield 31, 3) := by decide +kernel
theorem dL_act_203 : decode cL_act 203 = .ok (.iconst 1, 1) := by decide +kernel
theorem dL_act_204 : decode cL_act 204 = .ok (.isub, 1) := by decide +kernel
theorem dL_act_205 : decode cL_act 205 = .ok (.putfield 31, 3) := by decide +kernel
theorem dL_act_208 : decode cL_act 208 = .ok (.aload_n 0, 1) := by decide +kernel
theorem dL_act_209 : decode cL_act 209 = .ok (.iload_n 3, 1) := by decide +kernel
theorem dL_act_210 : decode cL_act 210 = .ok (.invokevirtual 38, 3) := by decide +kernel
theorem dL_act_213 : decode cL_act 213 = .ok (.aload 4, 2) := by decide +kernel
theorem dL_act_215 : decode cL_act 215 = .ok (.getfield 31, 3) := by decide +kernel
theorem dL_act_218 : decode cL_act 218 = .ok (.if_icmp .ne 7, 3) := by decide +kernel
theorem dL_act_221 : decode cL_act 221 = .ok (.iconst 1, 1) := by decide +kernel
theorem dL_act_222 : decode cL_act 222 = .ok (.goto 4, 3) := by decide +kernel
theorem dL_act_225 : decode cL_act 225 = .ok (.iconst 0, 1) := by decide +kernel
theorem dL_act_226 : decode cL_act 226 = .ok (.ireturn, 1) := by decide +kernel
theorem dL_act_227 : decode cL_act 227 = .ok (.aload 4, 2) := by decide +kernel
theorem dL_act_229 : decode cL_act 229 = .ok (.ifnull 11, 3) := by decide +kernel
theorem dL_act_232 : decode cL_act 232 = .ok (.aload 4, 2) := by decide +kernel
theorem dL_act_234 : decode cL_act 234 = .ok (.getfield 31, 3) := by decide +kernel
theorem dL_act_237 : decode cL_act 237 = .ok (.ifCond .le 5, 3) := by decide +kernel
theorem dL_act_240 : decode cL_act 240 = .ok (.iconst 1, 1) := by decide +kernel
theorem dL_act_241 : decode cL_act 241 = .ok (.ireturn, 1) := by decide +kernel
theorem dL_act_242 : decode cL_act 242 = .ok (.iconst 0, 1) := by decide +kernel
theorem dL_act_243 : decode cL_act 243 = .ok (.istore 5, 2) := by decide +kernel
theorem dL_act_245 : decode cL_act 245 = .ok (.iload 5, 2) := by decide +kernel
theorem dL_act_247 : decode cL_act 247 = .ok (.iconst 2, 1) := by decide +kernel
theorem dL_act_248 : decode cL_act 248 = .ok (.if_icmp .ge 66, 3) := by decide +kernel
theorem dL_act_251 : decode cL_act 251 = .ok (.aload_n 1, 1) := by decide +kernel
theorem dL_act_252 : decode cL_act 252 = .ok (.getfield 41, 3) := by decide +kernel
theorem dL_act_255 : decode cL_act 255 = .ok (.iload 5, 2) := by decide +kernel
theorem dL_act_257 : decode cL_act 257 = .ok (.aaload, 1) := by decide +kernel
theorem dL_act_258 : decode cL_act 258 = .ok (.arraylength, 1) := by decide +kernel
theorem dL_act_259 : decode cL_act 259 = .ok (.iconst 1, 1) := by decide +kernel
theorem dL_act_260 : decode cL_act 260 = .ok (.isub, 1) := by decide +kernel
theorem dL_act_261 : decode cL_act 261 = .ok (.istore 6, 2) := by decide +kernel
theorem dL_act_263 : decode cL_act 263 = .ok (.iload 6, 2) := by decide +kernel
theorem dL_act_265 : decode cL_act 265 = .ok (.ifCond .lt 43, 3) := by decide +kernel
theorem dL_act_268 : decode cL_act 268 = .ok (.aload_n 1, 1) := by decide +kernel
theorem dL_act_269 : decode cL_act 269 = .ok (.getfield 41, 3) := by decide +kernel
theorem dL_act_272 : decode cL_act 272 = .ok (.iload 5, 2) := by decide +kernel
theorem dL_act_274 : decode cL_act 274 = .ok (.aaload, 1) := by decide +kernel
theorem dL_act_275 : decode cL_act 275 = .ok (.iload 6, 2) := by decide +kernel
theorem dL_act_277 : decode cL_act 277 = .ok (.aaload, 1) := by decide +kernel
theorem dL_act_278 : decode cL_act 278 = .ok (.aload 4, 2) := by decide +kernel
theorem dL_act_280 : decode cL_act 280 = .ok (.if_acmp .ne 22, 3) := by decide +kernel
theorem dL_act_283 : decode cL_act 283 = .ok (.aload_n 1, 1) := by decide +kernel
theorem dL_act_284 : decode cL_act 284 = .ok (.getfield 41, 3) := by decide +kernel
theorem dL_act_287 : decode cL_act 287 = .ok (.iload 5, 2) := by decide +kernel
theorem dL_act_289 : decode cL_act 289 = .ok (.aload_n 1, 1) := by decide +kernel
theorem dL_act_290 : decode cL_act 290 = .ok (.getfield 41, 3) := by decide +kernel
theorem dL_act_293 : decode cL_act 293 = .ok (.iload 5, 2) := by decide +kernel
theorem dL_act_295 : decode cL_act 295 = .ok (.aaload, 1) := by decide +kernel
theorem dL_act_296 : decode cL_act 296 = .ok (.iload 6, 2) := by decide +kernel
theorem dL_act_298 : decode cL_act 298 = .ok (.invokestatic 45, 3) := by decide +kernel
theorem dL_act_301 : decode cL_act 301 = .ok (.aastore, 1) := by decide +kernel
theorem dL_act_302 : decode cL_act 302 = .ok (.iinc 6 (-1), 3) := by decide +kernel
theorem dL_act_305 : decode cL_act 305 = .ok (.goto (-42), 3) := by decide +kernel
theorem dL_act_308 : decode cL_act 308 = .ok (.iinc 5 1, 3) := by decide +kernel
theorem dL_act_311 : decode cL_act 311 = .ok (.goto (-66), 3) := by decide +kernel
theorem dL_act_314 : decode cL_act 314 = .ok (.aload_n 0, 1) := by decide +kernel
theorem dL_act_315 : decode cL_act 315 = .ok (.iload_n 3, 1) := by decide +kernel
theorem dL_act_316 : decode cL_act 316 = .ok (.invokevirtual 49, 3) := by decide +kernel
theorem dL_act_319 : decode cL_act 319 = .ok (.aload 4, 2) := by decide +kernel
theorem dL_act_321 : decode cL_act 321 = .ok (.getfield 52, 3) := by decide +kernel
theorem dL_act_324 : decode cL_act 324 = .ok (.if_icmp .ne 7, 3) := by decide +kernel
theorem dL_act_327 : decode cL_act 327 = .ok (.iconst 1, 1) := by decide +kernel
theorem dL_act_328 : decode cL_act 328 = .ok (.goto 4, 3) := by decide +kernel
theorem dL_act_331 : decode cL_act 331 = .ok (.iconst 0, 1) := by decide +kernel
theorem dL_act_332 : decode cL_act 332 = .ok (.ireturn, 1) := by decide +kernel
theorem dL_act_333 : decode cL_act 333 = .ok (.iconst 2, 1) := by decide +kernel
theorem dL_act_334 : decode cL_act 334 = .ok (.iload_n 2, 1) := by decide +kernel
theorem dL_act_335 : decode cL_act 335 = .ok (.iconst 2, 1) := by decide +kernel
theorem dL_act_336 : decode cL_act 336 = .ok (.ishr, 1) := by decide +kernel
theorem dL_act_337 : decode cL_act 337 = .ok (.bipush 11, 2) := by decide +kernel
theorem dL_act_339 : decode cL_act 339 = .ok (.invokestatic 19, 3) := by decide +kernel
theorem dL_act_342 : decode cL_act 342 = .ok (.iadd, 1) := by decide +kernel
theorem dL_act_343 : decode cL_act 343 = .ok (.istore 5, 2) := by decide +kernel
theorem dL_act_345 : decode cL_act 345 = .ok (.aload_n 1, 1) := by decide +kernel
theorem dL_act_346 : decode cL_act 346 = .ok (.invokevirtual 55, 3) := by decide +kernel
theorem dL_act_349 : decode cL_act 349 = .ok (.iload 5, 2) := by decide +kernel
theorem dL_act_351 : decode cL_act 351 = .ok (.if_icmp .le 5, 3) := by decide +kernel
theorem dL_act_354 : decode cL_act 354 = .ok (.iconst 1, 1) := by decide +kernel
theorem dL_act_355 : decode cL_act 355 = .ok (.ireturn, 1) := by decide +kernel
theorem dL_act_356 : decode cL_act 356 = .ok (.aload_n 1, 1) := by decide +kernel
theorem dL_act_357 : decode cL_act 357 = .ok (.getfield 59, 3) := by decide +kernel
theorem dL_act_360 : decode cL_act 360 = .ok (.istore 6, 2) := by decide +kernel
theorem dL_act_362 : decode cL_act 362 = .ok (.aload_n 1, 1) := by decide +kernel
theorem dL_act_363 : decode cL_act 363 = .ok (.iload 5, 2) := by decide +kernel
theorem dL_act_365 : decode cL_act 365 = .ok (.invokevirtual 62, 3) := by decide +kernel
theorem dL_act_368 : decode cL_act 368 = .ok (.aload_n 0, 1) := by decide +kernel
theorem dL_act_369 : decode cL_act 369 = .ok (.iload 5, 2) := by decide +kernel
theorem dL_act_371 : decode cL_act 371 = .ok (.invokevirtual 66, 3) := by decide +kernel
theorem dL_act_374 : decode cL_act 374 = .ok (.iload 6, 2) := by decide +kernel
theorem dL_act_376 : decode cL_act 376 = .ok (.if_icmp .ne 7, 3) := by decide +kernel
theorem dL_act_379 : decode cL_act 379 = .ok (.iconst 1, 1) := by decide +kernel
theorem dL_act_380 : decode cL_act 380 = .ok (.goto 4, 3) := by decide +kernel
theorem dL_act_383 : decode cL_act 383 = .ok (.iconst 0, 1) := by decide +kernel
theorem dL_act_384 : decode cL_act 384 = .ok (.ireturn, 1) := by decide +kernel
theorem dL_act_385 : decode cL_act 385 = .ok (.aload_n 1, 1) := by decide +kernel
theorem dL_act_386 : decode cL_act 386 = .ok (.getfield 68, 3) := by decide +kernel
theorem dL_act_389 : decode cL_act 389 = .ok (.istore 7, 2) := by decide +kernel
theorem dL_act_391 : decode cL_act 391 = .ok (.aload_n 1, 1) := by decide +kernel
theorem dL_act_392 : decode cL_act 392 = .ok (.iload_n 2, 1) := by decide +kernel
theorem dL_act_393 : decode cL_act 393 = .ok (.iconst 2, 1) := by decide +kernel
theorem dL_act_394 : decode cL_act 394 = .ok (.ishr, 1) := by decide +kernel
theorem dL_act_395 : decode cL_act 395 = .ok (.aload_n 1, 1) := by decide +kernel
theorem dL_act_396 : decode cL_act 396 = .ok (.getfield 59, 3) := by decide +kernel
theorem dL_act_399 : decode cL_act 399 = .ok (.iconst 1, 1) := by decide +kernel
theorem dL_act_400 : decode cL_act 400 = .ok (.iadd, 1) := by decide +kernel
theorem dL_act_401 : decode cL_act 401 = .ok (.invokestatic 19, 3) := by decide +kernel
theorem dL_act_404 : decode cL_act 404 = .ok (.putfield 68, 3) := by decide +kernel
theorem dL_act_407 : decode cL_act 407 = .ok (.aload_n 0, 1) := by decide +kernel
theorem dL_act_408 : decode cL_act 408 = .ok (.aload_n 1, 1) := by decide +kernel
theorem dL_act_409 : decode cL_act 409 = .ok (.getfield 68, 3) := by decide +kernel
theorem dL_act_412 : decode cL_act 412 = .ok (.invokevirtual 71, 3) := by decide +kernel
theorem dL_act_415 : decode cL_act 415 = .ok (.iload 7, 2) := by decide +kernel
theorem dL_act_417 : decode cL_act 417 = .ok (.if_icmp .ne 7, 3) := by decide +kernel
theorem dL_act_420 : decode cL_act 420 = .ok (.iconst 1, 1) := by decide +kernel
theorem dL_act_421 : decode cL_act 421 = .ok (.goto 4, 3) := by decide +kernel
theorem dL_act_424 : decode cL_act 424 = .ok (.iconst 0, 1) := by decide +kernel
theorem dL_act_425 : decode cL_act 425 = .ok (.ireturn, 1) := by decide +kernel
theorem dL_act_426 : decode cL_act 426 = .ok (.iload_n 2, 1) := by decide +kernel
theorem dL_act_427 : decode cL_act 427 = .ok (.iconst 3, 1) := by decide +kernel
theorem dL_act_428 : decode cL_act 428 = .ok (.ishr, 1) := by decide +kernel
theorem dL_act_429 : decode cL_act 429 = .ok (.bipush 40, 2) := by decide +kernel
theorem dL_act_431 : decode cL_act 431 = .ok (.invokestatic 19, 3) := by decide +kernel
theorem dL_act_434 : decode cL_act 434 = .ok (.istore 8, 2) := by decide +kernel
theorem dL_act_436 : decode cL_act 436 = .ok (.iconst 1, 1) := by decide +kernel
theorem dL_act_437 : decode cL_act 437 = .ok (.iload_n 2, 1) := by decide +kernel
theorem dL_act_438 : decode cL_act 438 = .ok (.iconst 4, 1) := by decide +kernel
theorem dL_act_439 : decode cL_act 439 = .ok (.ishr, 1) := by decide +kernel
theorem dL_act_440 : decode cL_act 440 = .ok (.bipush 30, 2) := by decide +kernel
theorem dL_act_442 : decode cL_act 442 = .ok (.invokestatic 19, 3) := by decide +kernel
theorem dL_act_445 : decode cL_act 445 = .ok (.iadd, 1) := by decide +kernel
theorem dL_act_446 : decode cL_act 446 = .ok (.istore 9, 2) := by decide +kernel
theorem dL_act_448 : decode cL_act 448 = .ok (.aload_n 0, 1) := by decide +kernel
theorem dL_act_449 : decode cL_act 449 = .ok (.iload_n 3, 1) := by decide +kernel
theorem dL_act_450 : decode cL_act 450 = .ok (.iload 8, 2) := by decide +kernel
theorem dL_act_452 : decode cL_act 452 = .ok (.iload 9, 2) := by decide +kernel
theorem dL_act_454 : decode cL_act 454 = .ok (.invokevirtual 74, 3) := by decide +kernel
theorem dL_act_457 : decode cL_act 457 = .ok (.aload_n 1, 1) := by decide +kernel
theorem dL_act_458 : decode cL_act 458 = .ok (.iload_n 3, 1) := by decide +kernel
theorem dL_act_459 : decode cL_act 459 = .ok (.iload 8, 2) := by decide +kernel
theorem dL_act_461 : decode cL_act 461 = .ok (.iload 9, 2) := by decide +kernel
theorem dL_act_463 : decode cL_act 463 = .ok (.invokevirtual 78, 3) := by decide +kernel
theorem dL_act_466 : decode cL_act 466 = .ok (.if_icmp .ne 7, 3) := by decide +kernel
theorem dL_act_469 : decode cL_act 469 = .ok (.iconst 1, 1) := by decide +kernel
theorem dL_act_470 : decode cL_act 470 = .ok (.goto 4, 3) := by decide +kernel
theorem dL_act_473 : decode cL_act 473 = .ok (.iconst 0, 1) := by decide +kernel
theorem dL_act_474 : decode cL_act 474 = .ok (.ireturn, 1) := by decide +kernel
theorem dL_act_475 : decode cL_act 475 = .ok (.aload_n 0, 1) := by decide +kernel
theorem dL_act_476 : decode cL_act 476 = .ok (.iload_n 3, 1) := by decide +kernel
theorem dL_act_477 : decode cL_act 477 = .ok (.invokestatic 79, 3) := by decide +kernel
theorem dL_act_480 : decode cL_act 480 = .ok (.aload_n 1, 1) := by decide +kernel
theorem dL_act_481 : decode cL_act 481 = .ok (.iload_n 3, 1) := by decide +kernel
theorem dL_act_482 : decode cL_act 482 = .ok (.invokevirtual 82, 3) := by decide +kernel
theorem dL_act_485 : decode cL_act 485 = .ok (.if_icmp .ne 7, 3) := by decide +kernel
theorem dL_act_488 : decode cL_act 488 = .ok (.iconst 1, 1) := by decide +kernel
theorem dL_act_489 : decode cL_act 489 = .ok (.goto 4, 3) := by decide +kernel
theorem dL_act_492 : decode cL_act 492 = .ok (.iconst 0, 1) := by decide +kernel
theorem dL_act_493 : decode cL_act 493 = .ok (.ireturn, 1) := by decide +kernel
theorem dL_build_0 : decode cL_build 0 = .ok (.new 26, 3) := by decide +kernel
theorem dL_build_3 : decode cL_build 3 = .ok (.dup, 1) := by decide +kernel
theorem dL_build_4 : decode cL_build 4 = .ok (.invokespecial 83, 3) := by decide +kernel
theorem dL_build_7 : decode cL_build 7 = .ok (.astore_n 2, 1) := by decide +kernel
theorem dL_build_8 : decode cL_build 8 = .ok (.bipush 15, 2) := by decide +kernel
theorem dL_build_10 : decode cL_build 10 = .ok (.aload_n 1, 1) := by decide +kernel
theorem dL_build_11 : decode cL_build 11 = .ok (.iconst 0, 1) := by decide +kernel
theorem dL_build_12 : decode cL_build 12 = .ok (.invokestatic 84, 3) := by decide +kernel
theorem dL_build_15 : decode cL_build 15 = .ok (.bipush 60, 2) := by decide +kernel
theorem dL_build_17 : decode cL_build 17 = .ok (.invokestatic 19, 3) := by decide +kernel
theorem dL_build_20 : decode cL_build 20 = .ok (.iadd, 1) := by decide +kernel
theorem dL_build_21 : decode cL_build 21 = .ok (.istore_n 3, 1) := by decide +kernel
theorem dL_build_22 : decode cL_build 22 = .ok (.iconst 0, 1) := by decide +kernel
theorem dL_build_23 : decode cL_build 23 = .ok (.istore 4, 2) := by decide +kernel
theorem dL_build_25 : decode cL_build 25 = .ok (.iload 4, 2) := by decide +kernel
theorem dL_build_27 : decode cL_build 27 = .ok (.iload_n 3, 1) := by decide +kernel
theorem dL_build_28 : decode cL_build 28 = .ok (.if_icmp .ge 43, 3) := by decide +kernel
theorem dL_build_31 : decode cL_build 31 = .ok (.aload_n 0, 1) := by decide +kernel
theorem dL_build_32 : decode cL_build 32 = .ok (.aload_n 2, 1) := by decide +kernel
theorem dL_build_33 : decode cL_build 33 = .ok (.aload_n 1, 1) := by decide +kernel
theorem dL_build_34 : decode cL_build 34 = .ok (.iload 4, 2) := by decide +kernel
theorem dL_build_36 : decode cL_build 36 = .ok (.bipush 16, 2) := by decide +kernel
theorem dL_build_38 : decode cL_build 38 = .ok (.irem, 1) := by decide +kernel
theorem dL_build_39 : decode cL_build 39 = .ok (.invokestatic 84, 3) := by decide +kernel
theorem dL_build_42 : decode cL_build 42 = .ok (.iload 4, 2) := by decide +kernel
theorem dL_build_44 : decode cL_build 44 = .ok (.bipush 16, 2) := by decide +kernel
theorem dL_build_46 : decode cL_build 46 = .ok (.idiv, 1) := by decide +kernel
theorem dL_build_47 : decode cL_build 47 = .ok (.iconst 3, 1) := by decide +kernel
theorem dL_build_48 : decode cL_build 48 = .ok (.imul, 1) := by decide +kernel
theorem dL_build_49 : decode cL_build 49 = .ok (.ishr, 1) := by decide +kernel
theorem dL_build_50 : decode cL_build 50 = .ok (.sipush 373, 3) := by decide +kernel
theorem dL_build_53 : decode cL_build 53 = .ok (.iload 4, 2) := by decide +kernel
theorem dL_build_55 : decode cL_build 55 = .ok (.imul, 1) := by decide +kernel
theorem dL_build_56 : decode cL_build 56 = .ok (.iadd, 1) := by decide +kernel
theorem dL_build_57 : decode cL_build 57 = .ok (.invokestatic 88, 3) := by decide +kernel
theorem dL_build_60 : decode cL_build 60 = .ok (.ifCond .ne 5, 3) := by decide +kernel
theorem dL_build_63 : decode cL_build 63 = .ok (.aconst_null, 1) := by decide +kernel
theorem dL_build_64 : decode cL_build 64 = .ok (.areturn, 1) := by decide +kernel
theorem dL_build_65 : decode cL_build 65 = .ok (.iinc 4 1, 3) := by decide +kernel
theorem dL_build_68 : decode cL_build 68 = .ok (.goto (-43), 3) := by decide +kernel
theorem dL_build_71 : decode cL_build 71 = .ok (.aload_n 2, 1) := by decide +kernel
theorem dL_build_72 : decode cL_build 72 = .ok (.areturn, 1) := by decide +kernel
theorem dL_law_0 : decode cL_law 0 = .ok (.new 12, 3) := by decide +kernel
theorem dL_law_3 : decode cL_law 3 = .ok (.dup, 1) := by decide +kernel
theorem dL_law_4 : decode cL_law 4 = .ok (.invokespecial 92, 3) := by decide +kernel
theorem dL_law_7 : decode cL_law 7 = .ok (.astore_n 1, 1) := by decide +kernel
theorem dL_law_8 : decode cL_law 8 = .ok (.aload_n 1, 1) := by decide +kernel
theorem dL_law_9 : decode cL_law 9 = .ok (.aload_n 0, 1) := by decide +kernel
theorem dL_law_10 : decode cL_law 10 = .ok (.invokestatic 93, 3) := by decide +kernel
theorem dL_law_13 : decode cL_law 13 = .ok (.astore_n 2, 1) := by decide +kernel
theorem dL_law_14 : decode cL_law 14 = .ok (.aload_n 2, 1) := by decide +kernel
theorem dL_law_15 : decode cL_law 15 = .ok (.ifnonnull 5, 3) := by decide +kernel
theorem dL_law_18 : decode cL_law 18 = .ok (.iconst 0, 1) := by decide +kernel
theorem dL_law_19 : decode cL_law 19 = .ok (.ireturn, 1) := by decide +kernel
theorem dL_law_20 : decode cL_law 20 = .ok (.iconst 0, 1) := by decide +kernel
theorem dL_law_21 : decode cL_law 21 = .ok (.istore_n 3, 1) := by decide +kernel
theorem dL_law_22 : decode cL_law 22 = .ok (.iload_n 3, 1) := by decide +kernel
theorem dL_law_23 : decode cL_law 23 = .ok (.bipush 60, 2) := by decide +kernel
theorem dL_law_25 : decode cL_law 25 = .ok (.if_icmp .ge 507, 3) := by decide +kernel
theorem dL_law_28 : decode cL_law 28 = .ok (.aload_n 0, 1) := by decide +kernel
theorem dL_law_29 : decode cL_law 29 = .ok (.iload_n 3, 1) := by decide +kernel
theorem dL_law_30 : decode cL_law 30 = .ok (.bipush 16, 2) := by decide +kernel
theorem dL_law_32 : decode cL_law 32 = .ok (.irem, 1) := by decide +kernel
theorem dL_law_33 : decode cL_law 33 = .ok (.invokestatic 84, 3) := by decide +kernel
theorem dL_law_36 : decode cL_law 36 = .ok (.iload_n 3, 1) := by decide +kernel
theorem dL_law_37 : decode cL_law 37 = .ok (.bipush 16, 2) := by decide +kernel
theorem dL_law_39 : decode cL_law 39 = .ok (.idiv, 1) := by decide +kernel
theorem dL_law_40 : decode cL_law 40 = .ok (.iconst 3, 1) := by decide +kernel
theorem dL_law_41 : decode cL_law 41 = .ok (.imul, 1) := by decide +kernel
theorem dL_law_42 : decode cL_law 42 = .ok (.ishr, 1) := by decide +kernel
theorem dL_law_43 : decode cL_law 43 = .ok (.sipush 373, 3) := by decide +kernel
theorem dL_law_46 : decode cL_law 46 = .ok (.iload_n 3, 1) := by decide +kernel
theorem dL_law_47 : decode cL_law 47 = .ok (.imul, 1) := by decide +kernel
theorem dL_law_48 : decode cL_law 48 = .ok (.iadd, 1) := by decide +kernel
theorem dL_law_49 : decode cL_law 49 = .ok (.istore 4, 2) := by decide +kernel
theorem dL_law_51 : decode cL_law 51 = .ok (.aload_n 1, 1) := by decide +kernel
theorem dL_law_52 : decode cL_law 52 = .ok (.aload_n 2, 1) := by decide +kernel
theorem dL_law_53 : decode cL_law 53 = .ok (.iload 4, 2) := by decide +kernel
theorem dL_law_55 : decode cL_law 55 = .ok (.invokestatic 88, 3) := by decide +kernel
theorem dL_law_58 : decode cL_law 58 = .ok (.ifCond .ne 5, 3) := by decide +kernel
theorem dL_law_61 : decode cL_law 61 = .ok (.iconst 0, 1) := by decide +kernel
theorem dL_law_62 : decode cL_law 62 = .ok (.ireturn, 1) := by decide +kernel
theorem dL_law_63 : decode cL_law 63 = .ok (.iload 4, 2) := by decide +kernel
theorem dL_law_65 : decode cL_law 65 = .ok (.iconst 1, 1) := by decide +kernel
theorem dL_law_66 : decode cL_law 66 = .ok (.ishr, 1) := by decide +kernel
theorem dL_law_67 : decode cL_law 67 = .ok (.bipush 40, 2) := by decide +kernel
theorem dL_law_69 : decode cL_law 69 = .ok (.invokestatic 19, 3) := by decide +kernel
theorem dL_law_72 : decode cL_law 72 = .ok (.istore 5, 2) := by decide +kernel
theorem dL_law_74 : decode cL_law 74 = .ok (.aload_n 1, 1) := by decide +kernel
theorem dL_law_75 : decode cL_law 75 = .ok (.iconst 1, 1) := by decide +kernel
theorem dL_law_76 : decode cL_law 76 = .ok (.invokevirtual 97, 3) := by decide +kernel
theorem dL_law_79 : decode cL_law 79 = .ok (.aload_n 1, 1) := by decide +kernel
theorem dL_law_80 : decode cL_law 80 = .ok (.iconst 2, 1) := by decide +kernel
theorem dL_law_81 : decode cL_law 81 = .ok (.invokevirtual 97, 3) := by decide +kernel
theorem dL_law_84 : decode cL_law 84 = .ok (.iadd, 1) := by decide +kernel
theorem dL_law_85 : decode cL_law 85 = .ok (.istore 6, 2) := by decide +kernel
theorem dL_law_87 : decode cL_law 87 = .ok (.aload_n 1, 1) := by decide +kernel
theorem dL_law_88 : decode cL_law 88 = .ok (.iconst 0, 1) := by decide +kernel
theorem dL_law_89 : decode cL_law 89 = .ok (.invokevirtual 97, 3) := by decide +kernel
theorem dL_law_92 : decode cL_law 92 = .ok (.istore 7, 2) := by decide +kernel
theorem dL_law_94 : decode cL_law 94 = .ok (.aload_n 1, 1) := by decide +kernel
theorem dL_law_95 : decode cL_law 95 = .ok (.bipush 6, 2) := by decide +kernel
theorem dL_law_97 : decode cL_law 97 = .ok (.invokevirtual 97, 3) := by decide +kernel
theorem dL_law_100 : decode cL_law 100 = .ok (.aload_n 1, 1) := by decide +kernel
theorem dL_law_101 : decode cL_law 101 = .ok (.bipush 7, 2) := by decide +kernel
theorem dL_law_103 : decode cL_law 103 = .ok (.invokevirtual 97, 3) := by decide +kernel
theorem dL_law_106 : decode cL_law 106 = .ok (.iadd, 1) := by decide +kernel
theorem dL_law_107 : decode cL_law 107 = .ok (.istore 8, 2) := by decide +kernel
theorem dL_law_109 : decode cL_law 109 = .ok (.aload_n 1, 1) := by decide +kernel
theorem dL_law_110 : decode cL_law 110 = .ok (.bipush 9, 2) := by decide +kernel
theorem dL_law_112 : decode cL_law 112 = .ok (.invokevirtual 97, 3) := by decide +kernel
theorem dL_law_115 : decode cL_law 115 = .ok (.istore 9, 2) := by decide +kernel
theorem dL_law_117 : decode cL_law 117 = .ok (.bipush 40, 2) := by decide +kernel
theorem dL_law_119 : decode cL_law 119 = .ok (.newarray .boolean, 2) := by decide +kernel
theorem dL_law_121 : decode cL_law 121 = .ok (.astore 10, 2) := by decide +kernel
theorem dL_law_123 : decode cL_law 123 = .ok (.bipush 40, 2) := by decide +kernel
theorem dL_law_125 : decode cL_law 125 = .ok (.newarray .boolean, 2) := by decide +kernel
theorem dL_law_127 : decode cL_law 127 = .ok (.astore 11, 2) := by decide +kernel
theorem dL_law_129 : decode cL_law 129 = .ok (.iconst 0, 1) := by decide +kernel
theorem dL_law_130 : decode cL_law 130 = .ok (.istore 12, 2) := by decide +kernel
theorem dL_law_132 : decode cL_law 132 = .ok (.iload 12, 2) := by decide +kernel
theorem dL_law_134 : decode cL_law 134 = .ok (.bipush 40, 2) := by decide +kernel
theorem dL_law_136 : decode cL_law 136 = .ok (.if_icmp .ge 49, 3) := by decide +kernel
theorem dL_law_139 : decode cL_law 139 = .ok (.aload 10, 2) := by decide +kernel
theorem dL_law_141 : decode cL_law 141 = .ok (.iload 12, 2) := by decide +kernel
theorem dL_law_143 : decode cL_law 143 = .ok (.aload_n 1, 1) := by decide +kernel
theorem dL_law_144 : decode cL_law 144 = .ok (.iload 12, 2) := by decide +kernel
theorem dL_law_146 : decode cL_law 146 = .ok (.iconst 0, 1) := by decide +kernel
theorem dL_law_147 : decode cL_law 147 = .ok (.invokevirtual 100, 3) := by decide +kernel
theorem dL_law_150 : decode cL_law 150 = .ok (.ifCond .lt 7, 3) := by decide +kernel
theorem dL_law_153 : decode cL_law 153 = .ok (.iconst 1, 1) := by decide +kernel
theorem dL_law_154 : decode cL_law 154 = .ok (.goto 4, 3) := by decide +kernel
theorem dL_law_157 : decode cL_law 157 = .ok (.iconst 0, 1) := by decide +kernel
theorem dL_law_158 : decode cL_law 158 = .ok (.bastore, 1) := by decide +kernel
theorem dL_law_159 : decode cL_law 159 = .ok (.aload 11, 2) := by decide +kernel
theorem dL_law_161 : decode cL_law 161 = .ok (.iload 12, 2) := by decide +kernel
theorem dL_law_163 : decode cL_law 163 = .ok (.aload_n 1, 1) := by decide +kernel
theorem dL_law_164 : decode cL_law 164 = .ok (.iload 12, 2) := by decide +kernel
theorem dL_law_166 : decode cL_law 166 = .ok (.iconst 3, 1) := by decide +kernel
theorem dL_law_167 : decode cL_law 167 = .ok (.invokevirtual 100, 3) := by decide +kernel
theorem dL_law_170 : decode cL_law 170 = .ok (.ifCond .le 7, 3) := by decide +kernel
theorem dL_law_173 : decode cL_law 173 = .ok (.iconst 1, 1) := by decide +kernel
theorem dL_law_174 : decode cL_law 174 = .ok (.goto 4, 3) := by decide +kernel
theorem dL_law_177 : decode cL_law 177 = .ok (.iconst 0, 1) := by decide +kernel
theorem dL_law_178 : decode cL_law 178 = .ok (.bastore, 1) := by decide +kernel
theorem dL_law_179 : decode cL_law 179 = .ok (.iinc 12 1, 3) := by decide +kernel
theorem dL_law_182 : decode cL_law 182 = .ok (.goto (-50), 3) := by decide +kernel
theorem dL_law_185 : decode cL_law 185 = .ok (.aload_n 1, 1) := by decide +kernel
theorem dL_law_186 : decode cL_law 186 = .ok (.iload 5, 2) := by decide +kernel
theorem dL_law_188 : decode cL_law 188 = .ok (.invokestatic 79, 3) := by decide +kernel
theorem dL_law_191 : decode cL_law 191 = .ok (.istore 12, 2) := by decide +kernel
theorem dL_law_193 : decode cL_law 193 = .ok (.aload_n 2, 1) := by decide +kernel
theorem dL_law_194 : decode cL_law 194 = .ok (.iload 5, 2) := by decide +kernel
theorem dL_law_196 : decode cL_law 196 = .ok (.invokevirtual 82, 3) := by decide +kernel
theorem dL_law_199 : decode cL_law 199 = .ok (.iload 12, 2) := by decide +kernel
theorem dL_law_201 : decode cL_law 201 = .ok (.if_icmp .ne 50, 3) := by decide +kernel
theorem dL_law_204 : decode cL_law 204 = .ok (.iload 12, 2) := by decide +kernel
theorem dL_law_206 : decode cL_law 206 = .ok (.ifCond .ne 7, 3) := by decide +kernel
theorem dL_law_209 : decode cL_law 209 = .ok (.iconst 1, 1) := by decide +kernel
theorem dL_law_210 : decode cL_law 210 = .ok (.goto 4, 3) := by decide +kernel
theorem dL_law_213 : decode cL_law 213 = .ok (.iconst 0, 1) := by decide +kernel
theorem dL_law_214 : decode cL_law 214 = .ok (.aload 10, 2) := by decide +kernel
theorem dL_law_216 : decode cL_law 216 = .ok (.iload 5, 2) := by decide +kernel
theorem dL_law_218 : decode cL_law 218 = .ok (.baload, 1) := by decide +kernel
theorem dL_law_219 : decode cL_law 219 = .ok (.if_icmp .ne 32, 3) := by decide +kernel
theorem dL_law_222 : decode cL_law 222 = .ok (.aload_n 1, 1) := by decide +kernel
theorem dL_law_223 : decode cL_law 223 = .ok (.bipush 6, 2) := by decide +kernel
theorem dL_law_225 : decode cL_law 225 = .ok (.invokevirtual 97, 3) := by decide +kernel
theorem dL_law_228 : decode cL_law 228 = .ok (.aload_n 1, 1) := by decide +kernel
theorem dL_law_229 : decode cL_law 229 = .ok (.bipush 7, 2) := by decide +kernel
theorem dL_law_231 : decode cL_law 231 = .ok (.invokevirtual 97, 3) := by decide +kernel
theorem dL_law_234 : decode cL_law 234 = .ok (.iadd, 1) := by decide +kernel
theorem dL_law_235 : decode cL_law 235 = .ok (.iload 8, 2) := by decide +kernel
theorem dL_law_237 : decode cL_law 237 = .ok (.iload 12, 2) := by decide +kernel
theorem dL_law_239 : decode cL_law 239 = .ok (.ifCond .ge 7, 3) := by decide +kernel
theorem dL_law_242 : decode cL_law 242 = .ok (.iconst 0, 1) := by decide +kernel
theorem dL_law_243 : decode cL_law 243 = .ok (.goto 4, 3) := by decide +kernel
theorem dL_law_246 : decode cL_law 246 = .ok (.iconst 1, 1) := by decide +kernel
theorem dL_law_247 : decode cL_law 247 = .ok (.iadd, 1) := by decide +kernel
theorem dL_law_248 : decode cL_law 248 = .ok (.if_icmp .eq 5, 3) := by decide +kernel
theorem dL_law_251 : decode cL_law 251 = .ok (.iconst 0, 1) := by decide +kernel
theorem dL_law_252 : decode cL_law 252 = .ok (.ireturn, 1) := by decide +kernel
theorem dL_law_253 : decode cL_law 253 = .ok (.iload 12, 2) := by decide +kernel
theorem dL_law_255 : decode cL_law 255 = .ok (.ifCond .ge 14, 3) := by decide +kernel
theorem dL_law_258 : decode cL_law 258 = .ok (.aload_n 1, 1) := by decide +kernel
theorem dL_law_259 : decode cL_law 259 = .ok (.bipush 9, 2) := by decide +kernel
theorem dL_law_261 : decode cL_law 261 = .ok (.invokevirtual 97, 3) := by decide +kernel
theorem dL_law_264 : decode cL_law 264 = .ok (.iload 9, 2) := by decide +kernel
theorem dL_law_266 : decode cL_law 266 = .ok (.if_icmp .ne 18, 3) := by decide +kernel
theorem dL_law_269 : decode cL_law 269 = .ok (.iload 12, 2) := by decide +kernel
theorem dL_law_271 : decode cL_law 271 = .ok (.ifCond .lt 15, 3) := by decide +kernel
theorem dL_law_274 : decode cL_law 274 = .ok (.aload_n 1, 1) := by decide +kernel
theorem dL_law_275 : decode cL_law 275 = .ok (.iload 5, 2) := by decide +kernel
theorem dL_law_277 : decode cL_law 277 = .ok (.iconst 0, 1) := by decide +kernel
theorem dL_law_278 : decode cL_law 278 = .ok (.invokevirtual 100, 3) := by decide +kernel
theorem dL_law_281 : decode cL_law 281 = .ok (.ifCond .ge 5, 3) := by decide +kernel
theorem dL_law_284 : decode cL_law 284 = .ok (.iconst 0, 1) := by decide +kernel
theorem dL_law_285 : decode cL_law 285 = .ok (.ireturn, 1) := by decide +kernel
theorem dL_law_286 : decode cL_law 286 = .ok (.iconst 0, 1) := by decide +kernel
theorem dL_law_287 : decode cL_law 287 = .ok (.istore 13, 2) := by decide +kernel
theorem dL_law_289 : decode cL_law 289 = .ok (.iconst 0, 1) := by decide +kernel
theorem dL_law_290 : decode cL_law 290 = .ok (.istore 14, 2) := by decide +kernel
theorem dL_law_292 : decode cL_law 292 = .ok (.iload 14, 2) := by decide +kernel
theorem dL_law_294 : decode cL_law 294 = .ok (.bipush 40, 2) := by decide +kernel
theorem dL_law_296 : decode cL_law 296 = .ok (.if_icmp .ge 77, 3) := by decide +kernel
theorem dL_law_299 : decode cL_law 299 = .ok (.aload_n 1, 1) := by decide +kernel
theorem dL_law_300 : decode cL_law 300 = .ok (.iload 14, 2) := by decide +kernel
theorem dL_law_302 : decode cL_law 302 = .ok (.iconst 0, 1) := by decide +kernel
theorem dL_law_303 : decode cL_law 303 = .ok (.invokevirtual 100, 3) := by decide +kernel
theorem dL_law_306 : decode cL_law 306 = .ok (.ifCond .lt 7, 3) := by decide +kernel
theorem dL_law_309 : decode cL_law 309 = .ok (.iconst 1, 1) := by decide +kernel
theorem dL_law_310 : decode cL_law 310 = .ok (.goto 4, 3) := by decide +kernel
theorem dL_law_313 : decode cL_law 313 = .ok (.iconst 0, 1) := by decide +kernel
theorem dL_law_314 : decode cL_law 314 = .ok (.istore 15, 2) := by decide +kernel
theorem dL_law_316 : decode cL_law 316 = .ok (.aload 10, 2) := by decide +kernel
theorem dL_law_318 : decode cL_law 318 = .ok (.iload 14, 2) := by decide +kernel
theorem dL_law_320 : decode cL_law 320 = .ok (.baload, 1) := by decide +kernel
theorem dL_law_321 : decode cL_law 321 = .ok (.ifCond .eq 11, 3) := by decide +kernel
theorem dL_law_324 : decode cL_law 324 = .ok (.iload 15, 2) := by decide +kernel
theorem dL_law_326 : decode cL_law 326 = .ok (.ifCond .ne 6, 3) := by decide +kernel
theorem dL_law_329 : decode cL_law 329 = .ok (.iinc 13 1, 3) := by decide +kernel
theorem dL_law_332 : decode cL_law 332 = .ok (.aload 11, 2) := by decide +kernel
theorem dL_law_334 : decode cL_law 334 = .ok (.iload 14, 2) := by decide +kernel
theorem dL_law_336 : decode cL_law 336 = .ok (.baload, 1) := by decide +kernel
theorem dL_law_337 : decode cL_law 337 = .ok (.ifCond .eq 8, 3) := by decide +kernel
theorem dL_law_340 : decode cL_law 340 = .ok (.iload 15, 2) := by decide +kernel
theorem dL_law_342 : decode cL_law 342 = .ok (.ifCond .eq 23, 3) := by decide +kernel
theorem dL_law_345 : decode cL_law 345 = .ok (.aload 10, 2) := by decide +kernel
theorem dL_law_347 : decode cL_law 347 = .ok (.iload 14, 2) := by decide +kernel
theorem dL_law_349 : decode cL_law 349 = .ok (.baload, 1) := by decide +kernel
theorem dL_law_350 : decode cL_law 350 = .ok (.ifCond .ne 17, 3) := by decide +kernel
theorem dL_law_353 : decode cL_law 353 = .ok (.iload 15, 2) := by decide +kernel
theorem dL_law_355 : decode cL_law 355 = .ok (.ifCond .eq 12, 3) := by decide +kernel
theorem dL_law_358 : decode cL_law 358 = .ok (.iload 14, 2) := by decide +kernel
theorem dL_law_360 : decode cL_law 360 = .ok (.iload 5, 2) := by decide +kernel
theorem dL_law_362 : decode cL_law 362 = .ok (.if_icmp .eq 5, 3) := by decide +kernel
theorem dL_law_365 : decode cL_law 365 = .ok (.iconst 0, 1) := by decide +kernel
theorem dL_law_366 : decode cL_law 366 = .ok (.ireturn, 1) := by decide +kernel
theorem dL_law_367 : decode cL_law 367 = .ok (.iinc 14 1, 3) := by decide +kernel
theorem dL_law_370 : decode cL_law 370 = .ok (.goto (-78), 3) := by decide +kernel
theorem dL_law_373 : decode cL_law 373 = .ok (.iload 12, 2) := by decide +kernel
theorem dL_law_375 : decode cL_law 375 = .ok (.ifCond .le 14, 3) := by decide +kernel
theorem dL_law_378 : decode cL_law 378 = .ok (.iload 6, 2) := by decide +kernel
theorem dL_law_380 : decode cL_law 380 = .ok (.iload 7, 2) := by decide +kernel
theorem dL_law_382 : decode cL_law 382 = .ok (.if_icmp .ne 7, 3) := by decide +kernel
theorem dL_law_385 : decode cL_law 385 = .ok (.iconst 1, 1) := by decide +kernel
theorem dL_law_386 : decode cL_law 386 = .ok (.goto 4, 3) := by decide +kernel
theorem dL_law_389 : decode cL_law 389 = .ok (.iconst 0, 1) := by decide +kernel
theorem dL_law_390 : decode cL_law 390 = .ok (.istore 14, 2) := by decide +kernel
theorem dL_law_392 : decode cL_law 392 = .ok (.iload 13, 2) := by decide +kernel
theorem dL_law_394 : decode cL_law 394 = .ok (.iload 14, 2) := by decide +kernel
theorem dL_law_396 : decode cL_law 396 = .ok (.ifCond .eq 7, 3) := by decide +kernel
theorem dL_law_399 : decode cL_law 399 = .ok (.iconst 1, 1) := by decide +kernel
theorem dL_law_400 : decode cL_law 400 = .ok (.goto 4, 3) := by decide +kernel
theorem dL_law_403 : decode cL_law 403 = .ok (.iconst 0, 1) := by decide +kernel
theorem dL_law_404 : decode cL_law 404 = .ok (.if_icmp .ne 44, 3) := by decide +kernel
theorem dL_law_407 : decode cL_law 407 = .ok (.aload_n 1, 1) := by decide +kernel
theorem dL_law_408 : decode cL_law 408 = .ok (.bipush 9, 2) := by decide +kernel
theorem dL_law_410 : decode cL_law 410 = .ok (.invokevirtual 97, 3) := by decide +kernel
theorem dL_law_413 : decode cL_law 413 = .ok (.iload 9, 2) := by decide +kernel
theorem dL_law_415 : decode cL_law 415 = .ok (.isub, 1) := by decide +kernel
theorem dL_law_416 : decode cL_law 416 = .ok (.iload 14, 2) := by decide +kernel
theorem dL_law_418 : decode cL_law 418 = .ok (.ifCond .eq 10, 3) := by decide +kernel
theorem dL_law_421 : decode cL_law 421 = .ok (.iconst 3, 1) := by decide +kernel
theorem dL_law_422 : decode cL_law 422 = .ok (.iload 6, 2) := by decide +kernel
theorem dL_law_424 : decode cL_law 424 = .ok (.imul, 1) := by decide +kernel
theorem dL_law_425 : decode cL_law 425 = .ok (.goto 4, 3) := by decide +kernel
theorem dL_law_428 : decode cL_law 428 = .ok (.iconst 0, 1) := by decide +kernel
theorem dL_law_429 : decode cL_law 429 = .ok (.if_icmp .gt 19, 3) := by decide +kernel
theorem dL_law_432 : decode cL_law 432 = .ok (.iload 14, 2) := by decide +kernel
theorem dL_law_434 : decode cL_law 434 = .ok (.ifCond .eq 16, 3) := by decide +kernel
theorem dL_law_437 : decode cL_law 437 = .ok (.aload_n 1, 1) := by decide +kernel
theorem dL_law_438 : decode cL_law 438 = .ok (.bipush 9, 2) := by decide +kernel
theorem dL_law_440 : decode cL_law 440 = .ok (.invokevirtual 97, 3) := by decide +kernel
theorem dL_law_443 : decode cL_law 443 = .ok (.iload 9, 2) := by decide +kernel
theorem dL_law_445 : decode cL_law 445 = .ok (.if_icmp .ne 5, 3) := by decide +kernel
theorem dL_law_448 : decode cL_law 448 = .ok (.iconst 0, 1) := by decide +kernel
theorem dL_law_449 : decode cL_law 449 = .ok (.ireturn, 1) := by decide +kernel
theorem dL_law_450 : decode cL_law 450 = .ok (.aload_n 1, 1) := by decide +kernel
theorem dL_law_451 : decode cL_law 451 = .ok (.iconst 1, 1) := by decide +kernel
theorem dL_law_452 : decode cL_law 452 = .ok (.invokevirtual 97, 3) := by decide +kernel
theorem dL_law_455 : decode cL_law 455 = .ok (.aload_n 1, 1) := by decide +kernel
theorem dL_law_456 : decode cL_law 456 = .ok (.iconst 2, 1) := by decide +kernel
theorem dL_law_457 : decode cL_law 457 = .ok (.invokevirtual 97, 3) := by decide +kernel
theorem dL_law_460 : decode cL_law 460 = .ok (.iadd, 1) := by decide +kernel
theorem dL_law_461 : decode cL_law 461 = .ok (.iload 6, 2) := by decide +kernel
theorem dL_law_463 : decode cL_law 463 = .ok (.iload 12, 2) := by decide +kernel
theorem dL_law_465 : decode cL_law 465 = .ok (.ifCond .le 12, 3) := by decide +kernel
theorem dL_law_468 : decode cL_law 468 = .ok (.iload 14, 2) := by decide +kernel
theorem dL_law_470 : decode cL_law 470 = .ok (.ifCond .ne 7, 3) := by decide +kernel
theorem dL_law_473 : decode cL_law 473 = .ok (.iconst 1, 1) := by decide +kernel
theorem dL_law_474 : decode cL_law 474 = .ok (.goto 4, 3) := by decide +kernel
theorem dL_law_477 : decode cL_law 477 = .ok (.iconst 0, 1) := by decide +kernel
theorem dL_law_478 : decode cL_law 478 = .ok (.iadd, 1) := by decide +kernel
theorem dL_law_479 : decode cL_law 479 = .ok (.if_icmp .eq 5, 3) := by decide +kernel
theorem dL_law_482 : decode cL_law 482 = .ok (.iconst 0, 1) := by decide +kernel
theorem dL_law_483 : decode cL_law 483 = .ok (.ireturn, 1) := by decide +kernel
theorem dL_law_484 : decode cL_law 484 = .ok (.aload_n 1, 1) := by decide +kernel
theorem dL_law_485 : decode cL_law 485 = .ok (.invokevirtual 103, 3) := by decide +kernel
theorem dL_law_488 : decode cL_law 488 = .ok (.ifCond .ge 7, 3) := by decide +kernel
theorem dL_law_491 : decode cL_law 491 = .ok (.iconst 1, 1) := by decide +kernel
theorem dL_law_492 : decode cL_law 492 = .ok (.goto 4, 3) := by decide +kernel
theorem dL_law_495 : decode cL_law 495 = .ok (.iconst 0, 1) := by decide +kernel
theorem dL_law_496 : decode cL_law 496 = .ok (.aload_n 1, 1) := by decide +kernel
theorem dL_law_497 : decode cL_law 497 = .ok (.bipush 10, 2) := by decide +kernel
theorem dL_law_499 : decode cL_law 499 = .ok (.invokevirtual 97, 3) := by decide +kernel
theorem dL_law_502 : decode cL_law 502 = .ok (.aload_n 1, 1) := by decide +kernel
theorem dL_law_503 : decode cL_law 503 = .ok (.iconst 1, 1) := by decide +kernel
theorem dL_law_504 : decode cL_law 504 = .ok (.invokevirtual 97, 3) := by decide +kernel
theorem dL_law_507 : decode cL_law 507 = .ok (.aload_n 1, 1) := by decide +kernel
theorem dL_law_508 : decode cL_law 508 = .ok (.iconst 2, 1) := by decide +kernel
theorem dL_law_509 : decode cL_law 509 = .ok (.invokevirtual 97, 3) := by decide +kernel
theorem dL_law_512 : decode cL_law 512 = .ok (.iadd, 1) := by decide +kernel
theorem dL_law_513 : decode cL_law 513 = .ok (.if_icmp .ne 7, 3) := by decide +kernel
theorem dL_law_516 : decode cL_law 516 = .ok (.iconst 1, 1) := by decide +kernel
theorem dL_law_517 : decode cL_law 517 = .ok (.goto 4, 3) := by decide +kernel
theorem dL_law_520 : decode cL_law 520 = .ok (.iconst 0, 1) := by decide +kernel
theorem dL_law_521 : decode cL_law 521 = .ok (.if_icmp .eq 5, 3) := by decide +kernel
theorem dL_law_524 : decode cL_law 524 = .ok (.iconst 0, 1) := by decide +kernel
theorem dL_law_525 : decode cL_law 525 = .ok (.ireturn, 1) := by decide +kernel
theorem dL_law_526 : decode cL_law 526 = .ok (.iinc 3 1, 3) := by decide +kernel
theorem dL_law_529 : decode cL_law 529 = .ok (.goto (-507), 3) := by decide +kernel
theorem dL_law_532 : decode cL_law 532 = .ok (.aload_n 2, 1) := by decide +kernel
theorem dL_law_533 : decode cL_law 533 = .ok (.aload_n 1, 1) := by decide +kernel
theorem dL_law_534 : decode cL_law 534 = .ok (.invokevirtual 106, 3) := by decide +kernel
theorem dL_law_537 : decode cL_law 537 = .ok (.ireturn, 1) := by decide +kernel
end
section
/-! the words of wsL_law by their places, and what each call needs -/
/-- what a call needs of the tables: instance, static, constructor -/
def CWV (own : String) (ix : Nat) (y : MethodName) (bytes : ByteArray) (maxL : Nat) (ret : Option FieldType) (n : Nat) : Prop :=
  Cond.methodLink own ix y ∈ wsL_law ∧ Cond.instanceMethod y ∈ wsL_law ∧ Cond.selects y.cls y y ∈ wsL_law ∧ Cond.initialized y.cls ∈ wsL_law ∧ Cond.code y bytes maxL ret ∈ wsL_law ∧ (y.cls ≠ "java/lang/invoke/MethodHandle" ∧ y.cls ≠ "java/lang/invoke/VarHandle" ∧ (parseMethodDescriptor y.desc).map (fun d => d.parameters.length) = some n)
def CWS (own : String) (ix : Nat) (y : MethodName) (bytes : ByteArray) (maxL : Nat) (ret : Option FieldType) (n : Nat) : Prop :=
  Cond.methodLink own ix y ∈ wsL_law ∧ Cond.static y ∈ wsL_law ∧ Cond.initialized y.cls ∈ wsL_law ∧ Cond.code y bytes maxL ret ∈ wsL_law ∧ (y.cls ≠ "java/lang/invoke/MethodHandle" ∧ y.cls ≠ "java/lang/invoke/VarHandle" ∧ (parseMethodDescriptor y.desc).map (fun d => d.parameters.length) = some n)
def CWI (own : String) (ix : Nat) (y : MethodName) (bytes : ByteArray) (maxL : Nat) (n : Nat) : Prop :=
  Cond.methodLink own ix y ∈ wsL_law ∧ Cond.instanceMethod y ∈ wsL_law ∧ Cond.initialized y.cls ∈ wsL_law ∧ Cond.code y bytes maxL none ∈ wsL_law ∧ y.name = "<init>" ∧ (y.cls ≠ "java/lang/invoke/MethodHandle" ∧ y.cls ≠ "java/lang/invoke/VarHandle" ∧ (parseMethodDescriptor y.desc).map (fun d => d.parameters.length) = some n)
theorem in_r1 : ∀ w ∈ wsL_law0_r1, w ∈ wsL_law := fun _ h => List.mem_append_left _ (List.mem_append_left _ (List.mem_append_left _ (List.mem_append_left _ (List.mem_append_left _ (List.mem_append_left _ (List.mem_append_left _ (List.mem_append_left _ (List.mem_append_left _ (List.mem_append_left _ (List.mem_append_left _ h))))))))))
theorem in_r2 : ∀ w ∈ wsL_law0_r2, w ∈ wsL_law := fun _ h => List.mem_append_left _ (List.mem_append_left _ (List.mem_append_left _ (List.mem_append_left _ (List.mem_append_left _ (List.mem_append_left _ (List.mem_append_left _ (List.mem_append_left _ (List.mem_append_left _ (List.mem_append_left _ (List.mem_append_right _ (List.mem_append_left _ h)))))))))))
theorem in_r3 : ∀ w ∈ wsL_law0_r3, w ∈ wsL_law := fun _ h => List.mem_append_left _ (List.mem_append_left _ (List.mem_append_left _ (List.mem_append_left _ (List.mem_append_left _ (List.mem_append_left _ (List.mem_append_left _ (List.mem_append_left _ (List.mem_append_left _ (List.mem_append_left _ (List.mem_append_right _ (List.mem_append_right _ (List.mem_append_left _ h))))))))))))
theorem in_r4 : ∀ w ∈ wsL_law0_r4, w ∈ wsL_law := fun _ h => List.mem_append_left _ (List.mem_append_left _ (List.mem_append_left _ (List.mem_append_left _ (List.mem_append_left _ (List.mem_append_left _ (List.mem_append_left _ (List.mem_append_left _ (List.mem_append_left _ (List.mem_append_left _ (List.mem_append_right _ (List.mem_append_right _ (List.mem_append_right _ (List.mem_append_left _ h)))))))))))))
theorem in_r5 : ∀ w ∈ wsL_law0_r5, w ∈ wsL_law := fun _ h => List.mem_append_left _ (List.mem_append_left _ (List.mem_append_left _ (List.mem_append_left _ (List.mem_append_left _ (List.mem_append_left _ (List.mem_append_left _ (List.mem_append_left _ (List.mem_append_left _ (List.mem_append_left _ (List.mem_append_right _ (List.mem_append_right _ (List.mem_append_right _ (List.mem_append_right _ (List.mem_append_left _ h))))))))))))))
theorem in_r6 : ∀ w ∈ wsL_law0_r6, w ∈ wsL_law := fun _ h => List.mem_append_left _ (List.mem_append_left _ (List.mem_append_left _ (List.mem_append_left _ (List.mem_append_left _ (List.mem_append_left _ (List.mem_append_left _ (List.mem_append_left _ (List.mem_append_left _ (List.mem_append_left _ (List.mem_append_right _ (List.mem_append_right _ (List.mem_append_right _ (List.mem_append_right _ (List.mem_append_right _ (List.mem_append_left _ h)))))))))))))))
theorem in_r7 : ∀ w ∈ wsL_law0_r7, w ∈ wsL_law := fun _ h => List.mem_append_left _ (List.mem_append_left _ (List.mem_append_left _ (List.mem_append_left _ (List.mem_append_left _ (List.mem_append_left _ (List.mem_append_left _ (List.mem_append_left _ (List.mem_append_left _ (List.mem_append_left _ (List.mem_append_right _ (List.mem_append_right _ (List.mem_append_right _ (List.mem_append_right _ (List.mem_append_right _ (List.mem_append_right _ (List.mem_append_left _ h))))))))))))))))
theorem in_r8 : ∀ w ∈ wsL_law0_r8, w ∈ wsL_law := fun _ h => List.mem_append_left _ (List.mem_append_left _ (List.mem_append_left _ (List.mem_append_left _ (List.mem_append_left _ (List.mem_append_left _ (List.mem_append_left _ (List.mem_append_left _ (List.mem_append_left _ (List.mem_append_left _ (List.mem_append_right _ (List.mem_append_right _ (List.mem_append_right _ (List.mem_append_right _ (List.mem_append_right _ (List.mem_append_right _ (List.mem_append_right _ (List.mem_append_left _ h)))))))))))))))))
theorem in_r9 : ∀ w ∈ wsL_law0_r9, w ∈ wsL_law := fun _ h => List.mem_append_left _ (List.mem_append_left _ (List.mem_append_left _ (List.mem_append_left _ (List.mem_append_left _ (List.mem_append_left _ (List.mem_append_left _ (List.mem_append_left _ (List.mem_append_left _ (List.mem_append_left _ (List.mem_append_right _ (List.mem_append_right _ (List.mem_append_right _ (List.mem_append_right _ (List.mem_append_right _ (List.mem_append_right _ (List.mem_append_right _ (List.mem_append_right _ (List.mem_append_left _ h))))))))))))))))))
theorem in_r10 : ∀ w ∈ wsL_law0_r10, w ∈ wsL_law := fun _ h => List.mem_append_left _ (List.mem_append_left _ (List.mem_append_left _ (List.mem_append_left _ (List.mem_append_left _ (List.mem_append_left _ (List.mem_append_left _ (List.mem_append_left _ (List.mem_append_left _ (List.mem_append_left _ (List.mem_append_right _ (List.mem_append_right _ (List.mem_append_right _ (List.mem_append_right _ (List.mem_append_right _ (List.mem_append_right _ (List.mem_append_right _ (List.mem_append_right _ (List.mem_append_right _ (List.mem_append_left _ h)))))))))))))))))))
theorem in_r11 : ∀ w ∈ wsL_law0_r11, w ∈ wsL_law := fun _ h => List.mem_append_left _ (List.mem_append_left _ (List.mem_append_left _ (List.mem_append_left _ (List.mem_append_left _ (List.mem_append_left _ (List.mem_append_left _ (List.mem_append_left _ (List.mem_append_left _ (List.mem_append_left _ (List.mem_append_right _ (List.mem_append_right _ (List.mem_append_right _ (List.mem_append_right _ (List.mem_append_right _ (List.mem_append_right _ (List.mem_append_right _ (List.mem_append_right _ (List.mem_append_right _ (List.mem_append_right _ (List.mem_append_left _ h))))))))))))))))))))
theorem in_r12 : ∀ w ∈ wsL_law0_r12, w ∈ wsL_law := fun _ h => List.mem_append_left _ (List.mem_append_left _ (List.mem_append_left _ (List.mem_append_left _ (List.mem_append_left _ (List.mem_append_left _ (List.mem_append_left _ (List.mem_append_left _ (List.mem_append_left _ (List.mem_append_left _ (List.mem_append_right _ (List.mem_append_right _ (List.mem_append_right _ (List.mem_append_right _ (List.mem_append_right _ (List.mem_append_right _ (List.mem_append_right _ (List.mem_append_right _ (List.mem_append_right _ (List.mem_append_right _ (List.mem_append_right _ (List.mem_append_left _ h)))))))))))))))))))))
theorem in_r13 : ∀ w ∈ wsL_law0_r13, w ∈ wsL_law := fun _ h => List.mem_append_left _ (List.mem_append_left _ (List.mem_append_left _ (List.mem_append_left _ (List.mem_append_left _ (List.mem_append_left _ (List.mem_append_left _ (List.mem_append_left _ (List.mem_append_left _ (List.mem_append_left _ (List.mem_append_right _ (List.mem_append_right _ (List.mem_append_right _ (List.mem_append_right _ (List.mem_append_right _ (List.mem_append_right _ (List.mem_append_right _ (List.mem_append_right _ (List.mem_append_right _ (List.mem_append_right _ (List.mem_append_right _ (List.mem_append_right _ (List.mem_append_left _ h))))))))))))))))))))))
theorem in_r14 : ∀ w ∈ wsL_law0_r14, w ∈ wsL_law := fun _ h => List.mem_append_left _ (List.mem_append_left _ (List.mem_append_left _ (List.mem_append_left _ (List.mem_append_left _ (List.mem_append_left _ (List.mem_append_left _ (List.mem_append_left _ (List.mem_append_left _ (List.mem_append_left _ (List.mem_append_right _ (List.mem_append_right _ (List.mem_append_right _ (List.mem_append_right _ (List.mem_append_right _ (List.mem_append_right _ (List.mem_append_right _ (List.mem_append_right _ (List.mem_append_right _ (List.mem_append_right _ (List.mem_append_right _ (List.mem_append_right _ (List.mem_append_right _ (List.mem_append_left _ h)))))))))))))))))))))))
theorem in_r15 : ∀ w ∈ wsL_law0_r15, w ∈ wsL_law := fun _ h => List.mem_append_left _ (List.mem_append_left _ (List.mem_append_left _ (List.mem_append_left _ (List.mem_append_left _ (List.mem_append_left _ (List.mem_append_left _ (List.mem_append_left _ (List.mem_append_left _ (List.mem_append_left _ (List.mem_append_right _ (List.mem_append_right _ (List.mem_append_right _ (List.mem_append_right _ (List.mem_append_right _ (List.mem_append_right _ (List.mem_append_right _ (List.mem_append_right _ (List.mem_append_right _ (List.mem_append_right _ (List.mem_append_right _ (List.mem_append_right _ (List.mem_append_right _ (List.mem_append_right _ (List.mem_append_left _ h))))))))))))))))))))))))
theorem in_r16 : ∀ w ∈ wsL_law0_r16, w ∈ wsL_law := fun _ h => List.mem_append_left _ (List.mem_append_left _ (List.mem_append_left _ (List.mem_append_left _ (List.mem_append_left _ (List.mem_append_left _ (List.mem_append_left _ (List.mem_append_left _ (List.mem_append_left _ (List.mem_append_left _ (List.mem_append_right _ (List.mem_append_right _ (List.mem_append_right _ (List.mem_append_right _ (List.mem_append_right _ (List.mem_append_right _ (List.mem_append_right _ (List.mem_append_right _ (List.mem_append_right _ (List.mem_append_right _ (List.mem_append_right _ (List.mem_append_right _ (List.mem_append_right _ (List.mem_append_right _ (List.mem_append_right _ (h)))))))))))))))))))))))))
theorem wq_1_0 : Cond.classLink RL 12 RX3 ∈ wsL_law := in_r1 _ (List.mem_of_getElem? (i := 0) rfl)
theorem wq_1_1 : Cond.instantiable RX3 2 ∈ wsL_law := in_r1 _ (List.mem_of_getElem? (i := 1) rfl)
theorem wq_1_2 : Cond.initialized RX3 ∈ wsL_law := in_r1 _ (List.mem_of_getElem? (i := 2) rfl)
theorem wq_1_3 : Cond.arrayClass .boolean ∈ wsL_law := in_r1 _ (List.mem_of_getElem? (i := 3) rfl)
theorem wq_1_4 : Cond.methodLink RL 92 yX3_init ∈ wsL_law := in_r1 _ (List.mem_of_getElem? (i := 4) rfl)
theorem wq_1_5 : Cond.instanceMethod yX3_init ∈ wsL_law := in_r1 _ (List.mem_of_getElem? (i := 5) rfl)
theorem wq_1_6 : Cond.code yX3_init cX3_init 1 none ∈ wsL_law := in_r1 _ (List.mem_of_getElem? (i := 6) rfl)
theorem wq_1_7 : Cond.methodLink RX3 1 objectInit ∈ wsL_law := in_r1 _ (List.mem_of_getElem? (i := 7) rfl)
theorem wq_1_8 : Cond.instanceMethod objectInit ∈ wsL_law := in_r1 _ (List.mem_of_getElem? (i := 8) rfl)
theorem wq_1_9 : Cond.code objectInit ⟨#[0xb1]⟩ 1 none ∈ wsL_law := in_r1 _ (List.mem_of_getElem? (i := 9) rfl)
theorem wq_1_10 : Cond.classLink RX3 7 RX1 ∈ wsL_law := in_r1 _ (List.mem_of_getElem? (i := 10) rfl)
theorem wq_1_11 : Cond.instantiable RX1 13 ∈ wsL_law := in_r1 _ (List.mem_of_getElem? (i := 11) rfl)
theorem wq_1_12 : Cond.initialized RX1 ∈ wsL_law := in_r1 _ (List.mem_of_getElem? (i := 12) rfl)
theorem wq_1_13 : Cond.fieldLink RX3 10 "PinnedPantry" "store" "LPinnedPantry$Store;" ∈ wsL_law := in_r1 _ (List.mem_of_getElem? (i := 13) rfl)
theorem wq_1_14 : Cond.fieldLink RX3 16 "PinnedPantry" "rehearsal" "LPinnedPantry$Store;" ∈ wsL_law := in_r1 _ (List.mem_of_getElem? (i := 14) rfl)
theorem wq_1_15 : Cond.methodLink RX3 9 yX1_init ∈ wsL_law := in_r1 _ (List.mem_of_getElem? (i := 15) rfl)
theorem wq_1_16 : Cond.instanceMethod yX1_init ∈ wsL_law := in_r1 _ (List.mem_of_getElem? (i := 16) rfl)
theorem wq_1_17 : Cond.code yX1_init cX1_init 1 none ∈ wsL_law := in_r1 _ (List.mem_of_getElem? (i := 17) rfl)
theorem wq_1_18 : Cond.methodLink RX1 3 objectInit ∈ wsL_law := in_r1 _ (List.mem_of_getElem? (i := 18) rfl)
theorem wq_1_19 : Cond.classLink RX1 9 RX0 ∈ wsL_law := in_r1 _ (List.mem_of_getElem? (i := 19) rfl)
theorem wq_1_20 : Cond.instantiable RX0 2 ∈ wsL_law := in_r1 _ (List.mem_of_getElem? (i := 20) rfl)
theorem wq_1_21 : Cond.initialized RX0 ∈ wsL_law := in_r1 _ (List.mem_of_getElem? (i := 21) rfl)
theorem wq_1_22 : Cond.fieldLink RX1 12 "PinnedPantry$Store" "newRow" "LPinnedPantry$Row;" ∈ wsL_law := in_r1 _ (List.mem_of_getElem? (i := 22) rfl)
theorem wq_1_23 : Cond.fieldLink RX1 18 "PinnedPantry$Store" "triedRow" "LPinnedPantry$Row;" ∈ wsL_law := in_r1 _ (List.mem_of_getElem? (i := 23) rfl)
theorem wq_2_0 : Cond.fieldLink RX1 21 "PinnedPantry$Store" "newList" "LPinnedPantry$Row;" ∈ wsL_law := in_r2 _ (List.mem_of_getElem? (i := 0) rfl)
theorem wq_2_1 : Cond.fieldLink RX1 24 "PinnedPantry$Store" "triedList" "LPinnedPantry$Row;" ∈ wsL_law := in_r2 _ (List.mem_of_getElem? (i := 1) rfl)
theorem wq_2_2 : Cond.classLink RX1 27 RX2 ∈ wsL_law := in_r2 _ (List.mem_of_getElem? (i := 2) rfl)
theorem wq_2_3 : Cond.instantiable RX2 1 ∈ wsL_law := in_r2 _ (List.mem_of_getElem? (i := 3) rfl)
theorem wq_2_4 : Cond.initialized RX2 ∈ wsL_law := in_r2 _ (List.mem_of_getElem? (i := 4) rfl)
theorem wq_2_5 : Cond.fieldLink RX1 30 "PinnedPantry$Store" "touches" "LPinnedPantry$Table;" ∈ wsL_law := in_r2 _ (List.mem_of_getElem? (i := 5) rfl)
theorem wq_2_6 : Cond.fieldLink RX1 34 "PinnedPantry$Store" "pins" "LPinnedPantry$Table;" ∈ wsL_law := in_r2 _ (List.mem_of_getElem? (i := 6) rfl)
theorem wq_2_7 : Cond.fieldLink RX1 37 "PinnedPantry$Store" "fetches" "LPinnedPantry$Table;" ∈ wsL_law := in_r2 _ (List.mem_of_getElem? (i := 7) rfl)
theorem wq_2_8 : Cond.fieldLink RX1 40 "PinnedPantry$Store" "places" "I" ∈ wsL_law := in_r2 _ (List.mem_of_getElem? (i := 8) rfl)
theorem wq_2_9 : Cond.methodLink RX1 11 yX0_init ∈ wsL_law := in_r2 _ (List.mem_of_getElem? (i := 9) rfl)
theorem wq_2_10 : Cond.instanceMethod yX0_init ∈ wsL_law := in_r2 _ (List.mem_of_getElem? (i := 10) rfl)
theorem wq_2_11 : Cond.code yX0_init cX0_init 1 none ∈ wsL_law := in_r2 _ (List.mem_of_getElem? (i := 11) rfl)
theorem wq_2_12 : Cond.methodLink RX0 3 objectInit ∈ wsL_law := in_r2 _ (List.mem_of_getElem? (i := 12) rfl)
theorem wq_2_13 : Cond.arrayClass .int ∈ wsL_law := in_r2 _ (List.mem_of_getElem? (i := 13) rfl)
theorem wq_2_14 : Cond.fieldLink RX0 9 "PinnedPantry$Row" "kinds" "[I" ∈ wsL_law := in_r2 _ (List.mem_of_getElem? (i := 14) rfl)
theorem wq_2_15 : Cond.fieldLink RX0 15 "PinnedPantry$Row" "length" "I" ∈ wsL_law := in_r2 _ (List.mem_of_getElem? (i := 15) rfl)
theorem wq_2_16 : Cond.methodLink RX1 29 yX2_init ∈ wsL_law := in_r2 _ (List.mem_of_getElem? (i := 16) rfl)
theorem wq_2_17 : Cond.instanceMethod yX2_init ∈ wsL_law := in_r2 _ (List.mem_of_getElem? (i := 17) rfl)
theorem wq_2_18 : Cond.code yX2_init cX2_init 1 none ∈ wsL_law := in_r2 _ (List.mem_of_getElem? (i := 18) rfl)
theorem wq_2_19 : Cond.methodLink RX2 3 objectInit ∈ wsL_law := in_r2 _ (List.mem_of_getElem? (i := 19) rfl)
theorem wq_2_20 : Cond.fieldLink RX2 9 "PinnedPantry$Table" "numbers" "[I" ∈ wsL_law := in_r2 _ (List.mem_of_getElem? (i := 20) rfl)
theorem wq_2_21 : Cond.methodLink RL 93 yL_build ∈ wsL_law := in_r2 _ (List.mem_of_getElem? (i := 21) rfl)
theorem wq_2_22 : Cond.static yL_build ∈ wsL_law := in_r2 _ (List.mem_of_getElem? (i := 22) rfl)
theorem wq_2_23 : Cond.initialized RL ∈ wsL_law := in_r2 _ (List.mem_of_getElem? (i := 23) rfl)
theorem wq_3_0 : Cond.code yL_build cL_build 5 (some (.object "PinnedPantryLaw$Sim")) ∈ wsL_law := in_r3 _ (List.mem_of_getElem? (i := 0) rfl)
theorem wq_3_1 : Cond.classLink RL 26 RX5 ∈ wsL_law := in_r3 _ (List.mem_of_getElem? (i := 1) rfl)
theorem wq_3_2 : Cond.instantiable RX5 8 ∈ wsL_law := in_r3 _ (List.mem_of_getElem? (i := 2) rfl)
theorem wq_3_3 : Cond.initialized RX5 ∈ wsL_law := in_r3 _ (List.mem_of_getElem? (i := 3) rfl)
theorem wq_3_4 : Cond.instanceMethod yX5_init ∈ wsL_law := in_r3 _ (List.mem_of_getElem? (i := 4) rfl)
theorem wq_3_5 : Cond.code yX5_init cX5_init 1 none ∈ wsL_law := in_r3 _ (List.mem_of_getElem? (i := 5) rfl)
theorem wq_3_6 : Cond.methodLink RX5 1 objectInit ∈ wsL_law := in_r3 _ (List.mem_of_getElem? (i := 6) rfl)
theorem wq_3_7 : Cond.fieldLink RX5 7 "PinnedPantryLaw$Sim" "places" "I" ∈ wsL_law := in_r3 _ (List.mem_of_getElem? (i := 7) rfl)
theorem wq_3_8 : Cond.classLink RX5 13 "[LPinnedPantryLaw$Jar;" ∈ wsL_law := in_r3 _ (List.mem_of_getElem? (i := 8) rfl)
theorem wq_3_9 : Cond.classLink RX5 15 RX4 ∈ wsL_law := in_r3 _ (List.mem_of_getElem? (i := 9) rfl)
theorem wq_3_10 : Cond.fieldLink RX5 17 "PinnedPantryLaw$Sim" "shelves" "[[LPinnedPantryLaw$Jar;" ∈ wsL_law := in_r3 _ (List.mem_of_getElem? (i := 10) rfl)
theorem wq_3_11 : Cond.classLink RX5 21 "[I" ∈ wsL_law := in_r3 _ (List.mem_of_getElem? (i := 11) rfl)
theorem wq_3_12 : Cond.fieldLink RX5 23 "PinnedPantryLaw$Sim" "lists" "[[I" ∈ wsL_law := in_r3 _ (List.mem_of_getElem? (i := 12) rfl)
theorem wq_3_13 : Cond.methodLink RL 84 yL_cell ∈ wsL_law := in_r3 _ (List.mem_of_getElem? (i := 13) rfl)
theorem wq_3_14 : Cond.static yL_cell ∈ wsL_law := in_r3 _ (List.mem_of_getElem? (i := 14) rfl)
theorem wq_3_15 : Cond.code yL_cell cL_cell 2 (some .int) ∈ wsL_law := in_r3 _ (List.mem_of_getElem? (i := 15) rfl)
theorem wq_3_16 : Cond.constant RL 8 (790386105) ∈ wsL_law := in_r3 _ (List.mem_of_getElem? (i := 16) rfl)
theorem wq_3_17 : Cond.methodLink RL 19 yL_below ∈ wsL_law := in_r3 _ (List.mem_of_getElem? (i := 17) rfl)
theorem wq_3_18 : Cond.static yL_below ∈ wsL_law := in_r3 _ (List.mem_of_getElem? (i := 18) rfl)
theorem wq_3_19 : Cond.code yL_below cL_below 2 (some .int) ∈ wsL_law := in_r3 _ (List.mem_of_getElem? (i := 19) rfl)
theorem wq_3_20 : Cond.constant RL 7 (2147483647) ∈ wsL_law := in_r3 _ (List.mem_of_getElem? (i := 20) rfl)
theorem wq_3_21 : Cond.methodLink RL 88 yL_act ∈ wsL_law := in_r3 _ (List.mem_of_getElem? (i := 21) rfl)
theorem wq_3_22 : Cond.static yL_act ∈ wsL_law := in_r3 _ (List.mem_of_getElem? (i := 22) rfl)
theorem wq_3_23 : Cond.code yL_act cL_act 10 (some .boolean) ∈ wsL_law := in_r3 _ (List.mem_of_getElem? (i := 23) rfl)
theorem wq_4_0 : Cond.fieldLink RL 31 "PinnedPantryLaw$Jar" "pins" "I" ∈ wsL_law := in_r4 _ (List.mem_of_getElem? (i := 0) rfl)
theorem wq_4_1 : Cond.fieldLink RL 41 "PinnedPantryLaw$Sim" "shelves" "[[LPinnedPantryLaw$Jar;" ∈ wsL_law := in_r4 _ (List.mem_of_getElem? (i := 1) rfl)
theorem wq_4_2 : Cond.fieldLink RL 52 "PinnedPantryLaw$Jar" "fetched" "I" ∈ wsL_law := in_r4 _ (List.mem_of_getElem? (i := 2) rfl)
theorem wq_4_3 : Cond.fieldLink RL 59 "PinnedPantryLaw$Sim" "places" "I" ∈ wsL_law := in_r4 _ (List.mem_of_getElem? (i := 3) rfl)
theorem wq_4_4 : Cond.fieldLink RL 68 "PinnedPantryLaw$Sim" "goal" "I" ∈ wsL_law := in_r4 _ (List.mem_of_getElem? (i := 4) rfl)
theorem wq_4_5 : Cond.methodLink RL 25 yX5_find ∈ wsL_law := in_r4 _ (List.mem_of_getElem? (i := 5) rfl)
theorem wq_4_6 : Cond.instanceMethod yX5_find ∈ wsL_law := in_r4 _ (List.mem_of_getElem? (i := 6) rfl)
theorem wq_4_7 : Cond.selects RX5 yX5_find yX5_find ∈ wsL_law := in_r4 _ (List.mem_of_getElem? (i := 7) rfl)
theorem wq_4_8 : Cond.code yX5_find cX5_find 10 (some (.object "PinnedPantryLaw$Jar")) ∈ wsL_law := in_r4 _ (List.mem_of_getElem? (i := 8) rfl)
theorem wq_4_9 : Cond.fieldLink RX5 50 "PinnedPantryLaw$Jar" "kind" "I" ∈ wsL_law := in_r4 _ (List.mem_of_getElem? (i := 9) rfl)
theorem wq_4_10 : Cond.methodLink RL 35 yX3_pin ∈ wsL_law := in_r4 _ (List.mem_of_getElem? (i := 10) rfl)
theorem wq_4_11 : Cond.instanceMethod yX3_pin ∈ wsL_law := in_r4 _ (List.mem_of_getElem? (i := 11) rfl)
theorem wq_4_12 : Cond.selects RX3 yX3_pin yX3_pin ∈ wsL_law := in_r4 _ (List.mem_of_getElem? (i := 12) rfl)
theorem wq_4_13 : Cond.code yX3_pin cX3_pin 2 (some .int) ∈ wsL_law := in_r4 _ (List.mem_of_getElem? (i := 13) rfl)
theorem wq_4_14 : Cond.classLink RX3 27 "java/lang/IllegalStateException" ∈ wsL_law := in_r4 _ (List.mem_of_getElem? (i := 14) rfl)
theorem wq_4_15 : Cond.initialized "java/lang/IllegalStateException" ∈ wsL_law := in_r4 _ (List.mem_of_getElem? (i := 15) rfl)
theorem wq_4_16 : Cond.methodLink RX3 19 yX3_requireKind ∈ wsL_law := in_r4 _ (List.mem_of_getElem? (i := 16) rfl)
theorem wq_4_17 : Cond.static yX3_requireKind ∈ wsL_law := in_r4 _ (List.mem_of_getElem? (i := 17) rfl)
theorem wq_4_18 : Cond.code yX3_requireKind cX3_requireKind 1 none ∈ wsL_law := in_r4 _ (List.mem_of_getElem? (i := 18) rfl)
theorem wq_4_19 : Cond.classLink RX3 90 "java/lang/IndexOutOfBoundsException" ∈ wsL_law := in_r4 _ (List.mem_of_getElem? (i := 19) rfl)
theorem wq_4_20 : Cond.initialized "java/lang/IndexOutOfBoundsException" ∈ wsL_law := in_r4 _ (List.mem_of_getElem? (i := 20) rfl)
theorem wq_4_21 : Cond.methodLink RX3 42 yX3_requireJar ∈ wsL_law := in_r4 _ (List.mem_of_getElem? (i := 21) rfl)
theorem wq_4_22 : Cond.instanceMethod yX3_requireJar ∈ wsL_law := in_r4 _ (List.mem_of_getElem? (i := 22) rfl)
theorem wq_4_23 : Cond.selects RX3 yX3_requireJar yX3_requireJar ∈ wsL_law := in_r4 _ (List.mem_of_getElem? (i := 23) rfl)
theorem wq_5_0 : Cond.code yX3_requireJar cX3_requireJar 2 none ∈ wsL_law := in_r5 _ (List.mem_of_getElem? (i := 0) rfl)
theorem wq_5_1 : Cond.methodLink RX3 165 yX1_hasJar ∈ wsL_law := in_r5 _ (List.mem_of_getElem? (i := 1) rfl)
theorem wq_5_2 : Cond.instanceMethod yX1_hasJar ∈ wsL_law := in_r5 _ (List.mem_of_getElem? (i := 2) rfl)
theorem wq_5_3 : Cond.selects RX1 yX1_hasJar yX1_hasJar ∈ wsL_law := in_r5 _ (List.mem_of_getElem? (i := 3) rfl)
theorem wq_5_4 : Cond.code yX1_hasJar cX1_hasJar 2 (some .boolean) ∈ wsL_law := in_r5 _ (List.mem_of_getElem? (i := 4) rfl)
theorem wq_5_5 : Cond.methodLink RX1 66 yX0_has ∈ wsL_law := in_r5 _ (List.mem_of_getElem? (i := 5) rfl)
theorem wq_5_6 : Cond.instanceMethod yX0_has ∈ wsL_law := in_r5 _ (List.mem_of_getElem? (i := 6) rfl)
theorem wq_5_7 : Cond.selects RX0 yX0_has yX0_has ∈ wsL_law := in_r5 _ (List.mem_of_getElem? (i := 7) rfl)
theorem wq_5_8 : Cond.code yX0_has cX0_has 2 (some .boolean) ∈ wsL_law := in_r5 _ (List.mem_of_getElem? (i := 8) rfl)
theorem wq_5_9 : Cond.methodLink RX0 19 yX0_placeOf ∈ wsL_law := in_r5 _ (List.mem_of_getElem? (i := 9) rfl)
theorem wq_5_10 : Cond.instanceMethod yX0_placeOf ∈ wsL_law := in_r5 _ (List.mem_of_getElem? (i := 10) rfl)
theorem wq_5_11 : Cond.selects RX0 yX0_placeOf yX0_placeOf ∈ wsL_law := in_r5 _ (List.mem_of_getElem? (i := 11) rfl)
theorem wq_5_12 : Cond.code yX0_placeOf cX0_placeOf 3 (some .int) ∈ wsL_law := in_r5 _ (List.mem_of_getElem? (i := 12) rfl)
theorem wq_5_13 : Cond.methodLink RX3 49 yX2_of ∈ wsL_law := in_r5 _ (List.mem_of_getElem? (i := 13) rfl)
theorem wq_5_14 : Cond.instanceMethod yX2_of ∈ wsL_law := in_r5 _ (List.mem_of_getElem? (i := 14) rfl)
theorem wq_5_15 : Cond.selects RX2 yX2_of yX2_of ∈ wsL_law := in_r5 _ (List.mem_of_getElem? (i := 15) rfl)
theorem wq_5_16 : Cond.code yX2_of cX2_of 2 (some .int) ∈ wsL_law := in_r5 _ (List.mem_of_getElem? (i := 16) rfl)
theorem wq_5_17 : Cond.methodLink RX3 56 yX1_changePins ∈ wsL_law := in_r5 _ (List.mem_of_getElem? (i := 17) rfl)
theorem wq_5_18 : Cond.instanceMethod yX1_changePins ∈ wsL_law := in_r5 _ (List.mem_of_getElem? (i := 18) rfl)
theorem wq_5_19 : Cond.selects RX1 yX1_changePins yX1_changePins ∈ wsL_law := in_r5 _ (List.mem_of_getElem? (i := 19) rfl)
theorem wq_5_20 : Cond.code yX1_changePins cX1_changePins 3 (some .int) ∈ wsL_law := in_r5 _ (List.mem_of_getElem? (i := 20) rfl)
theorem wq_5_21 : Cond.methodLink RX1 81 yX2_of ∈ wsL_law := in_r5 _ (List.mem_of_getElem? (i := 21) rfl)
theorem wq_5_22 : Cond.methodLink RX1 97 yX2_put ∈ wsL_law := in_r5 _ (List.mem_of_getElem? (i := 22) rfl)
theorem wq_5_23 : Cond.instanceMethod yX2_put ∈ wsL_law := in_r5 _ (List.mem_of_getElem? (i := 23) rfl)
theorem wq_6_0 : Cond.selects RX2 yX2_put yX2_put ∈ wsL_law := in_r6 _ (List.mem_of_getElem? (i := 0) rfl)
theorem wq_6_1 : Cond.code yX2_put cX2_put 3 none ∈ wsL_law := in_r6 _ (List.mem_of_getElem? (i := 1) rfl)
theorem wq_6_2 : Cond.methodLink RL 38 yX3_unpin ∈ wsL_law := in_r6 _ (List.mem_of_getElem? (i := 2) rfl)
theorem wq_6_3 : Cond.instanceMethod yX3_unpin ∈ wsL_law := in_r6 _ (List.mem_of_getElem? (i := 3) rfl)
theorem wq_6_4 : Cond.selects RX3 yX3_unpin yX3_unpin ∈ wsL_law := in_r6 _ (List.mem_of_getElem? (i := 4) rfl)
theorem wq_6_5 : Cond.code yX3_unpin cX3_unpin 2 (some .int) ∈ wsL_law := in_r6 _ (List.mem_of_getElem? (i := 5) rfl)
theorem wq_6_6 : Cond.methodLink RL 45 yL_without ∈ wsL_law := in_r6 _ (List.mem_of_getElem? (i := 6) rfl)
theorem wq_6_7 : Cond.static yL_without ∈ wsL_law := in_r6 _ (List.mem_of_getElem? (i := 7) rfl)
theorem wq_6_8 : Cond.code yL_without cL_without 4 (some (.array (.object "PinnedPantryLaw$Jar"))) ∈ wsL_law := in_r6 _ (List.mem_of_getElem? (i := 8) rfl)
theorem wq_6_9 : Cond.classLink RL 9 RX4 ∈ wsL_law := in_r6 _ (List.mem_of_getElem? (i := 9) rfl)
theorem wq_6_10 : Cond.methodLink RL 49 yX3_eat ∈ wsL_law := in_r6 _ (List.mem_of_getElem? (i := 10) rfl)
theorem wq_6_11 : Cond.instanceMethod yX3_eat ∈ wsL_law := in_r6 _ (List.mem_of_getElem? (i := 11) rfl)
theorem wq_6_12 : Cond.selects RX3 yX3_eat yX3_eat ∈ wsL_law := in_r6 _ (List.mem_of_getElem? (i := 12) rfl)
theorem wq_6_13 : Cond.code yX3_eat cX3_eat 2 (some .int) ∈ wsL_law := in_r6 _ (List.mem_of_getElem? (i := 13) rfl)
theorem wq_6_14 : Cond.methodLink RX3 64 yX1_remove ∈ wsL_law := in_r6 _ (List.mem_of_getElem? (i := 14) rfl)
theorem wq_6_15 : Cond.instanceMethod yX1_remove ∈ wsL_law := in_r6 _ (List.mem_of_getElem? (i := 15) rfl)
theorem wq_6_16 : Cond.selects RX1 yX1_remove yX1_remove ∈ wsL_law := in_r6 _ (List.mem_of_getElem? (i := 16) rfl)
theorem wq_6_17 : Cond.code yX1_remove cX1_remove 2 (some .int) ∈ wsL_law := in_r6 _ (List.mem_of_getElem? (i := 17) rfl)
theorem wq_6_18 : Cond.methodLink RX1 124 yX0_placeOf ∈ wsL_law := in_r6 _ (List.mem_of_getElem? (i := 18) rfl)
theorem wq_6_19 : Cond.methodLink RX1 127 yX0_takeOut ∈ wsL_law := in_r6 _ (List.mem_of_getElem? (i := 19) rfl)
theorem wq_6_20 : Cond.instanceMethod yX0_takeOut ∈ wsL_law := in_r6 _ (List.mem_of_getElem? (i := 20) rfl)
theorem wq_6_21 : Cond.selects RX0 yX0_takeOut yX0_takeOut ∈ wsL_law := in_r6 _ (List.mem_of_getElem? (i := 21) rfl)
theorem wq_6_22 : Cond.code yX0_takeOut cX0_takeOut 3 none ∈ wsL_law := in_r6 _ (List.mem_of_getElem? (i := 22) rfl)
theorem wq_6_23 : Cond.methodLink RL 55 yX5_pinned ∈ wsL_law := in_r6 _ (List.mem_of_getElem? (i := 23) rfl)
theorem wq_7_0 : Cond.instanceMethod yX5_pinned ∈ wsL_law := in_r7 _ (List.mem_of_getElem? (i := 0) rfl)
theorem wq_7_1 : Cond.selects RX5 yX5_pinned yX5_pinned ∈ wsL_law := in_r7 _ (List.mem_of_getElem? (i := 1) rfl)
theorem wq_7_2 : Cond.code yX5_pinned cX5_pinned 10 (some .int) ∈ wsL_law := in_r7 _ (List.mem_of_getElem? (i := 2) rfl)
theorem wq_7_3 : Cond.fieldLink RX5 47 "PinnedPantryLaw$Jar" "pins" "I" ∈ wsL_law := in_r7 _ (List.mem_of_getElem? (i := 3) rfl)
theorem wq_7_4 : Cond.methodLink RL 62 yX5_setPlaces ∈ wsL_law := in_r7 _ (List.mem_of_getElem? (i := 4) rfl)
theorem wq_7_5 : Cond.instanceMethod yX5_setPlaces ∈ wsL_law := in_r7 _ (List.mem_of_getElem? (i := 5) rfl)
theorem wq_7_6 : Cond.selects RX5 yX5_setPlaces yX5_setPlaces ∈ wsL_law := in_r7 _ (List.mem_of_getElem? (i := 6) rfl)
theorem wq_7_7 : Cond.code yX5_setPlaces cX5_setPlaces 3 none ∈ wsL_law := in_r7 _ (List.mem_of_getElem? (i := 7) rfl)
theorem wq_7_8 : Cond.fieldLink RX5 28 "PinnedPantryLaw$Sim" "goal" "I" ∈ wsL_law := in_r7 _ (List.mem_of_getElem? (i := 8) rfl)
theorem wq_7_9 : Cond.methodLink RX5 83 yX5_all ∈ wsL_law := in_r7 _ (List.mem_of_getElem? (i := 9) rfl)
theorem wq_7_10 : Cond.instanceMethod yX5_all ∈ wsL_law := in_r7 _ (List.mem_of_getElem? (i := 10) rfl)
theorem wq_7_11 : Cond.selects RX5 yX5_all yX5_all ∈ wsL_law := in_r7 _ (List.mem_of_getElem? (i := 11) rfl)
theorem wq_7_12 : Cond.code yX5_all cX5_all 1 (some .int) ∈ wsL_law := in_r7 _ (List.mem_of_getElem? (i := 12) rfl)
theorem wq_7_13 : Cond.methodLink RX5 94 yX5_sweep ∈ wsL_law := in_r7 _ (List.mem_of_getElem? (i := 13) rfl)
theorem wq_7_14 : Cond.instanceMethod yX5_sweep ∈ wsL_law := in_r7 _ (List.mem_of_getElem? (i := 14) rfl)
theorem wq_7_15 : Cond.selects RX5 yX5_sweep yX5_sweep ∈ wsL_law := in_r7 _ (List.mem_of_getElem? (i := 15) rfl)
theorem wq_7_16 : Cond.code yX5_sweep cX5_sweep 4 (some .int) ∈ wsL_law := in_r7 _ (List.mem_of_getElem? (i := 16) rfl)
theorem wq_7_17 : Cond.fieldLink RX5 40 "PinnedPantryLaw$Sim" "looked" "I" ∈ wsL_law := in_r7 _ (List.mem_of_getElem? (i := 17) rfl)
theorem wq_7_18 : Cond.fieldLink RX5 67 "PinnedPantryLaw$Jar" "isTouched" "Z" ∈ wsL_law := in_r7 _ (List.mem_of_getElem? (i := 18) rfl)
theorem wq_7_19 : Cond.methodLink RX5 53 yX5_free ∈ wsL_law := in_r7 _ (List.mem_of_getElem? (i := 19) rfl)
theorem wq_7_20 : Cond.instanceMethod yX5_free ∈ wsL_law := in_r7 _ (List.mem_of_getElem? (i := 20) rfl)
theorem wq_7_21 : Cond.selects RX5 yX5_free yX5_free ∈ wsL_law := in_r7 _ (List.mem_of_getElem? (i := 21) rfl)
theorem wq_7_22 : Cond.code yX5_free cX5_free 7 (some .int) ∈ wsL_law := in_r7 _ (List.mem_of_getElem? (i := 22) rfl)
theorem wq_7_23 : Cond.static yL_with ∈ wsL_law := in_r7 _ (List.mem_of_getElem? (i := 23) rfl)
theorem wq_8_0 : Cond.code yL_with cL_with 4 (some (.array (.object "PinnedPantryLaw$Jar"))) ∈ wsL_law := in_r8 _ (List.mem_of_getElem? (i := 0) rfl)
theorem wq_8_1 : Cond.static yL_with_ ∈ wsL_law := in_r8 _ (List.mem_of_getElem? (i := 1) rfl)
theorem wq_8_2 : Cond.code yL_with_ cL_with_ 4 (some (.array .int)) ∈ wsL_law := in_r8 _ (List.mem_of_getElem? (i := 2) rfl)
theorem wq_8_3 : Cond.static yL_without_ ∈ wsL_law := in_r8 _ (List.mem_of_getElem? (i := 3) rfl)
theorem wq_8_4 : Cond.code yL_without_ cL_without_ 4 (some (.array .int)) ∈ wsL_law := in_r8 _ (List.mem_of_getElem? (i := 4) rfl)
theorem wq_8_5 : Cond.methodLink RL 66 yX3_setPlaces ∈ wsL_law := in_r8 _ (List.mem_of_getElem? (i := 5) rfl)
theorem wq_8_6 : Cond.instanceMethod yX3_setPlaces ∈ wsL_law := in_r8 _ (List.mem_of_getElem? (i := 6) rfl)
theorem wq_8_7 : Cond.selects RX3 yX3_setPlaces yX3_setPlaces ∈ wsL_law := in_r8 _ (List.mem_of_getElem? (i := 7) rfl)
theorem wq_8_8 : Cond.code yX3_setPlaces cX3_setPlaces 3 (some .int) ∈ wsL_law := in_r8 _ (List.mem_of_getElem? (i := 8) rfl)
theorem wq_8_9 : Cond.classLink RX3 67 "java/lang/IllegalArgumentException" ∈ wsL_law := in_r8 _ (List.mem_of_getElem? (i := 9) rfl)
theorem wq_8_10 : Cond.initialized "java/lang/IllegalArgumentException" ∈ wsL_law := in_r8 _ (List.mem_of_getElem? (i := 10) rfl)
theorem wq_8_11 : Cond.methodLink RX3 72 yX1_pinnedJars ∈ wsL_law := in_r8 _ (List.mem_of_getElem? (i := 11) rfl)
theorem wq_8_12 : Cond.instanceMethod yX1_pinnedJars ∈ wsL_law := in_r8 _ (List.mem_of_getElem? (i := 12) rfl)
theorem wq_8_13 : Cond.selects RX1 yX1_pinnedJars yX1_pinnedJars ∈ wsL_law := in_r8 _ (List.mem_of_getElem? (i := 13) rfl)
theorem wq_8_14 : Cond.code yX1_pinnedJars cX1_pinnedJars 1 (some .int) ∈ wsL_law := in_r8 _ (List.mem_of_getElem? (i := 14) rfl)
theorem wq_8_15 : Cond.methodLink RX1 73 yX1_pinnedOn ∈ wsL_law := in_r8 _ (List.mem_of_getElem? (i := 15) rfl)
theorem wq_8_16 : Cond.instanceMethod yX1_pinnedOn ∈ wsL_law := in_r8 _ (List.mem_of_getElem? (i := 16) rfl)
theorem wq_8_17 : Cond.selects RX1 yX1_pinnedOn yX1_pinnedOn ∈ wsL_law := in_r8 _ (List.mem_of_getElem? (i := 17) rfl)
theorem wq_8_18 : Cond.code yX1_pinnedOn cX1_pinnedOn 4 (some .int) ∈ wsL_law := in_r8 _ (List.mem_of_getElem? (i := 18) rfl)
theorem wq_8_19 : Cond.methodLink RX1 77 yX0_at ∈ wsL_law := in_r8 _ (List.mem_of_getElem? (i := 19) rfl)
theorem wq_8_20 : Cond.instanceMethod yX0_at ∈ wsL_law := in_r8 _ (List.mem_of_getElem? (i := 20) rfl)
theorem wq_8_21 : Cond.selects RX0 yX0_at yX0_at ∈ wsL_law := in_r8 _ (List.mem_of_getElem? (i := 21) rfl)
theorem wq_8_22 : Cond.code yX0_at cX0_at 2 (some .int) ∈ wsL_law := in_r8 _ (List.mem_of_getElem? (i := 22) rfl)
theorem wq_8_23 : Cond.methodLink RX3 82 yX1_resize ∈ wsL_law := in_r8 _ (List.mem_of_getElem? (i := 23) rfl)
theorem wq_9_0 : Cond.instanceMethod yX1_resize ∈ wsL_law := in_r9 _ (List.mem_of_getElem? (i := 0) rfl)
theorem wq_9_1 : Cond.selects RX1 yX1_resize yX1_resize ∈ wsL_law := in_r9 _ (List.mem_of_getElem? (i := 1) rfl)
theorem wq_9_2 : Cond.code yX1_resize cX1_resize 3 none ∈ wsL_law := in_r9 _ (List.mem_of_getElem? (i := 2) rfl)
theorem wq_9_3 : Cond.fieldLink RX1 51 "PinnedPantry$Store" "goal" "I" ∈ wsL_law := in_r9 _ (List.mem_of_getElem? (i := 3) rfl)
theorem wq_9_4 : Cond.methodLink RX1 118 Lib.Math.min.name ∈ wsL_law := in_r9 _ (List.mem_of_getElem? (i := 4) rfl)
theorem wq_9_5 : Cond.static Lib.Math.min.name ∈ wsL_law := in_r9 _ (List.mem_of_getElem? (i := 5) rfl)
theorem wq_9_6 : Cond.initialized "java/lang/Math" ∈ wsL_law := in_r9 _ (List.mem_of_getElem? (i := 6) rfl)
theorem wq_9_7 : Cond.code Lib.Math.min.name Lib.Math.min.code 2 (some .int) ∈ wsL_law := in_r9 _ (List.mem_of_getElem? (i := 7) rfl)
theorem wq_9_8 : Cond.methodLink RX1 87 yX1_jars ∈ wsL_law := in_r9 _ (List.mem_of_getElem? (i := 8) rfl)
theorem wq_9_9 : Cond.instanceMethod yX1_jars ∈ wsL_law := in_r9 _ (List.mem_of_getElem? (i := 9) rfl)
theorem wq_9_10 : Cond.selects RX1 yX1_jars yX1_jars ∈ wsL_law := in_r9 _ (List.mem_of_getElem? (i := 10) rfl)
theorem wq_9_11 : Cond.code yX1_jars cX1_jars 1 (some .int) ∈ wsL_law := in_r9 _ (List.mem_of_getElem? (i := 11) rfl)
theorem wq_9_12 : Cond.methodLink RX1 104 yX1_sweep ∈ wsL_law := in_r9 _ (List.mem_of_getElem? (i := 12) rfl)
theorem wq_9_13 : Cond.instanceMethod yX1_sweep ∈ wsL_law := in_r9 _ (List.mem_of_getElem? (i := 13) rfl)
theorem wq_9_14 : Cond.selects RX1 yX1_sweep yX1_sweep ∈ wsL_law := in_r9 _ (List.mem_of_getElem? (i := 14) rfl)
theorem wq_9_15 : Cond.code yX1_sweep cX1_sweep 5 (some .int) ∈ wsL_law := in_r9 _ (List.mem_of_getElem? (i := 15) rfl)
theorem wq_9_16 : Cond.constant RX1 137 (1000000) ∈ wsL_law := in_r9 _ (List.mem_of_getElem? (i := 16) rfl)
theorem wq_9_17 : Cond.fieldLink RX1 63 "PinnedPantry$Store" "looks" "I" ∈ wsL_law := in_r9 _ (List.mem_of_getElem? (i := 17) rfl)
theorem wq_9_18 : Cond.methodLink RX1 91 yX1_pinnedJars ∈ wsL_law := in_r9 _ (List.mem_of_getElem? (i := 18) rfl)
theorem wq_9_19 : Cond.methodLink RX1 138 yX1_givingShelf ∈ wsL_law := in_r9 _ (List.mem_of_getElem? (i := 19) rfl)
theorem wq_9_20 : Cond.instanceMethod yX1_givingShelf ∈ wsL_law := in_r9 _ (List.mem_of_getElem? (i := 20) rfl)
theorem wq_9_21 : Cond.selects RX1 yX1_givingShelf yX1_givingShelf ∈ wsL_law := in_r9 _ (List.mem_of_getElem? (i := 21) rfl)
theorem wq_9_22 : Cond.code yX1_givingShelf cX1_givingShelf 4 (some .int) ∈ wsL_law := in_r9 _ (List.mem_of_getElem? (i := 22) rfl)
theorem wq_9_23 : Cond.methodLink RX1 131 Lib.Math.max.name ∈ wsL_law := in_r9 _ (List.mem_of_getElem? (i := 23) rfl)
theorem wq_10_0 : Cond.static Lib.Math.max.name ∈ wsL_law := in_r10 _ (List.mem_of_getElem? (i := 0) rfl)
theorem wq_10_1 : Cond.code Lib.Math.max.name Lib.Math.max.code 2 (some .int) ∈ wsL_law := in_r10 _ (List.mem_of_getElem? (i := 1) rfl)
theorem wq_10_2 : Cond.methodLink RX1 141 yX1_rowOf ∈ wsL_law := in_r10 _ (List.mem_of_getElem? (i := 2) rfl)
theorem wq_10_3 : Cond.instanceMethod yX1_rowOf ∈ wsL_law := in_r10 _ (List.mem_of_getElem? (i := 3) rfl)
theorem wq_10_4 : Cond.selects RX1 yX1_rowOf yX1_rowOf ∈ wsL_law := in_r10 _ (List.mem_of_getElem? (i := 4) rfl)
theorem wq_10_5 : Cond.code yX1_rowOf cX1_rowOf 2 (some (.object "PinnedPantry$Row")) ∈ wsL_law := in_r10 _ (List.mem_of_getElem? (i := 5) rfl)
theorem wq_10_6 : Cond.methodLink RX1 134 yX0_append ∈ wsL_law := in_r10 _ (List.mem_of_getElem? (i := 6) rfl)
theorem wq_10_7 : Cond.instanceMethod yX0_append ∈ wsL_law := in_r10 _ (List.mem_of_getElem? (i := 7) rfl)
theorem wq_10_8 : Cond.selects RX0 yX0_append yX0_append ∈ wsL_law := in_r10 _ (List.mem_of_getElem? (i := 8) rfl)
theorem wq_10_9 : Cond.code yX0_append cX0_append 2 none ∈ wsL_law := in_r10 _ (List.mem_of_getElem? (i := 9) rfl)
theorem wq_10_10 : Cond.methodLink RX1 145 yX1_listOf ∈ wsL_law := in_r10 _ (List.mem_of_getElem? (i := 10) rfl)
theorem wq_10_11 : Cond.instanceMethod yX1_listOf ∈ wsL_law := in_r10 _ (List.mem_of_getElem? (i := 11) rfl)
theorem wq_10_12 : Cond.selects RX1 yX1_listOf yX1_listOf ∈ wsL_law := in_r10 _ (List.mem_of_getElem? (i := 12) rfl)
theorem wq_10_13 : Cond.code yX1_listOf cX1_listOf 2 (some (.object "PinnedPantry$Row")) ∈ wsL_law := in_r10 _ (List.mem_of_getElem? (i := 13) rfl)
theorem wq_10_14 : Cond.methodLink RX1 148 yX0_forgetEldest ∈ wsL_law := in_r10 _ (List.mem_of_getElem? (i := 14) rfl)
theorem wq_10_15 : Cond.instanceMethod yX0_forgetEldest ∈ wsL_law := in_r10 _ (List.mem_of_getElem? (i := 15) rfl)
theorem wq_10_16 : Cond.selects RX0 yX0_forgetEldest yX0_forgetEldest ∈ wsL_law := in_r10 _ (List.mem_of_getElem? (i := 16) rfl)
theorem wq_10_17 : Cond.code yX0_forgetEldest cX0_forgetEldest 3 none ∈ wsL_law := in_r10 _ (List.mem_of_getElem? (i := 17) rfl)
theorem wq_10_18 : Cond.methodLink RX0 23 yX0_takeOut ∈ wsL_law := in_r10 _ (List.mem_of_getElem? (i := 18) rfl)
theorem wq_10_19 : Cond.methodLink RL 71 yX3_setGoal ∈ wsL_law := in_r10 _ (List.mem_of_getElem? (i := 19) rfl)
theorem wq_10_20 : Cond.instanceMethod yX3_setGoal ∈ wsL_law := in_r10 _ (List.mem_of_getElem? (i := 20) rfl)
theorem wq_10_21 : Cond.selects RX3 yX3_setGoal yX3_setGoal ∈ wsL_law := in_r10 _ (List.mem_of_getElem? (i := 21) rfl)
theorem wq_10_22 : Cond.code yX3_setGoal cX3_setGoal 3 (some .int) ∈ wsL_law := in_r10 _ (List.mem_of_getElem? (i := 22) rfl)
theorem wq_10_23 : Cond.methodLink RL 74 yX3_fetchAll ∈ wsL_law := in_r10 _ (List.mem_of_getElem? (i := 23) rfl)
theorem wq_11_0 : Cond.instanceMethod yX3_fetchAll ∈ wsL_law := in_r11 _ (List.mem_of_getElem? (i := 0) rfl)
theorem wq_11_1 : Cond.selects RX3 yX3_fetchAll yX3_fetchAll ∈ wsL_law := in_r11 _ (List.mem_of_getElem? (i := 1) rfl)
theorem wq_11_2 : Cond.code yX3_fetchAll cX3_fetchAll 4 (some .int) ∈ wsL_law := in_r11 _ (List.mem_of_getElem? (i := 2) rfl)
theorem wq_11_3 : Cond.methodLink RX3 34 yX3_requireSeries ∈ wsL_law := in_r11 _ (List.mem_of_getElem? (i := 3) rfl)
theorem wq_11_4 : Cond.static yX3_requireSeries ∈ wsL_law := in_r11 _ (List.mem_of_getElem? (i := 4) rfl)
theorem wq_11_5 : Cond.code yX3_requireSeries cX3_requireSeries 3 none ∈ wsL_law := in_r11 _ (List.mem_of_getElem? (i := 5) rfl)
theorem wq_11_6 : Cond.methodLink RX3 38 yX1_bringSeries ∈ wsL_law := in_r11 _ (List.mem_of_getElem? (i := 6) rfl)
theorem wq_11_7 : Cond.instanceMethod yX1_bringSeries ∈ wsL_law := in_r11 _ (List.mem_of_getElem? (i := 7) rfl)
theorem wq_11_8 : Cond.selects RX1 yX1_bringSeries yX1_bringSeries ∈ wsL_law := in_r11 _ (List.mem_of_getElem? (i := 8) rfl)
theorem wq_11_9 : Cond.code yX1_bringSeries cX1_bringSeries 6 (some .int) ∈ wsL_law := in_r11 _ (List.mem_of_getElem? (i := 9) rfl)
theorem wq_11_10 : Cond.fieldLink RX1 54 "PinnedPantry$Store" "hits" "I" ∈ wsL_law := in_r11 _ (List.mem_of_getElem? (i := 10) rfl)
theorem wq_11_11 : Cond.methodLink RX1 111 yX1_bring ∈ wsL_law := in_r11 _ (List.mem_of_getElem? (i := 11) rfl)
theorem wq_11_12 : Cond.instanceMethod yX1_bring ∈ wsL_law := in_r11 _ (List.mem_of_getElem? (i := 12) rfl)
theorem wq_11_13 : Cond.selects RX1 yX1_bring yX1_bring ∈ wsL_law := in_r11 _ (List.mem_of_getElem? (i := 13) rfl)
theorem wq_11_14 : Cond.code yX1_bring cX1_bring 3 (some .int) ∈ wsL_law := in_r11 _ (List.mem_of_getElem? (i := 14) rfl)
theorem wq_11_15 : Cond.fieldLink RX1 57 "PinnedPantry$Store" "misses" "I" ∈ wsL_law := in_r11 _ (List.mem_of_getElem? (i := 15) rfl)
theorem wq_11_16 : Cond.methodLink RX1 94 yX1_forecast ∈ wsL_law := in_r11 _ (List.mem_of_getElem? (i := 16) rfl)
theorem wq_11_17 : Cond.instanceMethod yX1_forecast ∈ wsL_law := in_r11 _ (List.mem_of_getElem? (i := 17) rfl)
theorem wq_11_18 : Cond.selects RX1 yX1_forecast yX1_forecast ∈ wsL_law := in_r11 _ (List.mem_of_getElem? (i := 18) rfl)
theorem wq_11_19 : Cond.code yX1_forecast cX1_forecast 2 (some .int) ∈ wsL_law := in_r11 _ (List.mem_of_getElem? (i := 19) rfl)
theorem wq_11_20 : Cond.methodLink RX1 84 yX1_hasJar ∈ wsL_law := in_r11 _ (List.mem_of_getElem? (i := 20) rfl)
theorem wq_11_21 : Cond.methodLink RX1 101 yX1_recall ∈ wsL_law := in_r11 _ (List.mem_of_getElem? (i := 21) rfl)
theorem wq_11_22 : Cond.instanceMethod yX1_recall ∈ wsL_law := in_r11 _ (List.mem_of_getElem? (i := 22) rfl)
theorem wq_11_23 : Cond.selects RX1 yX1_recall yX1_recall ∈ wsL_law := in_r11 _ (List.mem_of_getElem? (i := 23) rfl)
theorem wq_12_0 : Cond.code yX1_recall cX1_recall 3 none ∈ wsL_law := in_r12 _ (List.mem_of_getElem? (i := 0) rfl)
theorem wq_12_1 : Cond.fieldLink RX1 60 "PinnedPantry$Store" "rememberedMisses" "I" ∈ wsL_law := in_r12 _ (List.mem_of_getElem? (i := 1) rfl)
theorem wq_12_2 : Cond.methodLink RX1 114 yX1_turn ∈ wsL_law := in_r12 _ (List.mem_of_getElem? (i := 2) rfl)
theorem wq_12_3 : Cond.static yX1_turn ∈ wsL_law := in_r12 _ (List.mem_of_getElem? (i := 3) rfl)
theorem wq_12_4 : Cond.code yX1_turn cX1_turn 3 (some .int) ∈ wsL_law := in_r12 _ (List.mem_of_getElem? (i := 4) rfl)
theorem wq_12_5 : Cond.methodLink RX1 107 yX1_placeNewJar ∈ wsL_law := in_r12 _ (List.mem_of_getElem? (i := 5) rfl)
theorem wq_12_6 : Cond.instanceMethod yX1_placeNewJar ∈ wsL_law := in_r12 _ (List.mem_of_getElem? (i := 6) rfl)
theorem wq_12_7 : Cond.selects RX1 yX1_placeNewJar yX1_placeNewJar ∈ wsL_law := in_r12 _ (List.mem_of_getElem? (i := 7) rfl)
theorem wq_12_8 : Cond.code yX1_placeNewJar cX1_placeNewJar 3 none ∈ wsL_law := in_r12 _ (List.mem_of_getElem? (i := 8) rfl)
theorem wq_12_9 : Cond.methodLink RL 78 yX5_fetchAll ∈ wsL_law := in_r12 _ (List.mem_of_getElem? (i := 9) rfl)
theorem wq_12_10 : Cond.instanceMethod yX5_fetchAll ∈ wsL_law := in_r12 _ (List.mem_of_getElem? (i := 10) rfl)
theorem wq_12_11 : Cond.selects RX5 yX5_fetchAll yX5_fetchAll ∈ wsL_law := in_r12 _ (List.mem_of_getElem? (i := 11) rfl)
theorem wq_12_12 : Cond.code yX5_fetchAll cX5_fetchAll 7 (some .int) ∈ wsL_law := in_r12 _ (List.mem_of_getElem? (i := 12) rfl)
theorem wq_12_13 : Cond.methodLink RX5 100 yX5_fetch ∈ wsL_law := in_r12 _ (List.mem_of_getElem? (i := 13) rfl)
theorem wq_12_14 : Cond.instanceMethod yX5_fetch ∈ wsL_law := in_r12 _ (List.mem_of_getElem? (i := 14) rfl)
theorem wq_12_15 : Cond.selects RX5 yX5_fetch yX5_fetch ∈ wsL_law := in_r12 _ (List.mem_of_getElem? (i := 15) rfl)
theorem wq_12_16 : Cond.code yX5_fetch cX5_fetch 5 (some .int) ∈ wsL_law := in_r12 _ (List.mem_of_getElem? (i := 16) rfl)
theorem wq_12_17 : Cond.fieldLink RX5 80 "PinnedPantryLaw$Jar" "fetched" "I" ∈ wsL_law := in_r12 _ (List.mem_of_getElem? (i := 17) rfl)
theorem wq_12_18 : Cond.fieldLink RX5 31 "PinnedPantryLaw$Sim" "hits" "I" ∈ wsL_law := in_r12 _ (List.mem_of_getElem? (i := 18) rfl)
theorem wq_12_19 : Cond.fieldLink RX5 34 "PinnedPantryLaw$Sim" "misses" "I" ∈ wsL_law := in_r12 _ (List.mem_of_getElem? (i := 19) rfl)
theorem wq_12_20 : Cond.fieldLink RX5 37 "PinnedPantryLaw$Sim" "remembered" "I" ∈ wsL_law := in_r12 _ (List.mem_of_getElem? (i := 20) rfl)
theorem wq_12_21 : Cond.instantiable RX4 4 ∈ wsL_law := in_r12 _ (List.mem_of_getElem? (i := 21) rfl)
theorem wq_12_22 : Cond.initialized RX4 ∈ wsL_law := in_r12 _ (List.mem_of_getElem? (i := 22) rfl)
theorem wq_12_23 : Cond.methodLink RX5 76 yX5_find ∈ wsL_law := in_r12 _ (List.mem_of_getElem? (i := 23) rfl)
theorem wq_13_0 : Cond.methodLink RX5 87 yX5_pinned ∈ wsL_law := in_r13 _ (List.mem_of_getElem? (i := 0) rfl)
theorem wq_13_1 : Cond.methodLink RX5 90 yX5_list ∈ wsL_law := in_r13 _ (List.mem_of_getElem? (i := 1) rfl)
theorem wq_13_2 : Cond.instanceMethod yX5_list ∈ wsL_law := in_r13 _ (List.mem_of_getElem? (i := 2) rfl)
theorem wq_13_3 : Cond.selects RX5 yX5_list yX5_list ∈ wsL_law := in_r13 _ (List.mem_of_getElem? (i := 3) rfl)
theorem wq_13_4 : Cond.code yX5_list cX5_list 4 (some (.array .int)) ∈ wsL_law := in_r13 _ (List.mem_of_getElem? (i := 4) rfl)
theorem wq_13_5 : Cond.methodLink RX5 97 yX4_init ∈ wsL_law := in_r13 _ (List.mem_of_getElem? (i := 5) rfl)
theorem wq_13_6 : Cond.instanceMethod yX4_init ∈ wsL_law := in_r13 _ (List.mem_of_getElem? (i := 6) rfl)
theorem wq_13_7 : Cond.code yX4_init cX4_init 2 none ∈ wsL_law := in_r13 _ (List.mem_of_getElem? (i := 7) rfl)
theorem wq_13_8 : Cond.methodLink RX4 1 objectInit ∈ wsL_law := in_r13 _ (List.mem_of_getElem? (i := 8) rfl)
theorem wq_13_9 : Cond.fieldLink RX4 7 "PinnedPantryLaw$Jar" "fetched" "I" ∈ wsL_law := in_r13 _ (List.mem_of_getElem? (i := 9) rfl)
theorem wq_13_10 : Cond.fieldLink RX4 13 "PinnedPantryLaw$Jar" "kind" "I" ∈ wsL_law := in_r13 _ (List.mem_of_getElem? (i := 10) rfl)
theorem wq_13_11 : Cond.methodLink RL 79 yL_fetch ∈ wsL_law := in_r13 _ (List.mem_of_getElem? (i := 11) rfl)
theorem wq_13_12 : Cond.static yL_fetch ∈ wsL_law := in_r13 _ (List.mem_of_getElem? (i := 12) rfl)
theorem wq_13_13 : Cond.codeWith yL_fetch cL_fetch 3 (some .int) [(0, 5, 6, 17)] ∈ wsL_law := in_r13 _ (List.mem_of_getElem? (i := 13) rfl)
theorem wq_13_14 : Cond.classLink RL 17 "java/lang/IllegalStateException" ∈ wsL_law := in_r13 _ (List.mem_of_getElem? (i := 14) rfl)
theorem wq_13_15 : Cond.methodLink RL 11 yX3_fetch ∈ wsL_law := in_r13 _ (List.mem_of_getElem? (i := 15) rfl)
theorem wq_13_16 : Cond.instanceMethod yX3_fetch ∈ wsL_law := in_r13 _ (List.mem_of_getElem? (i := 16) rfl)
theorem wq_13_17 : Cond.selects RX3 yX3_fetch yX3_fetch ∈ wsL_law := in_r13 _ (List.mem_of_getElem? (i := 17) rfl)
theorem wq_13_18 : Cond.code yX3_fetch cX3_fetch 3 (some .int) ∈ wsL_law := in_r13 _ (List.mem_of_getElem? (i := 18) rfl)
theorem wq_13_19 : Cond.methodLink RX3 23 yX1_bring ∈ wsL_law := in_r13 _ (List.mem_of_getElem? (i := 19) rfl)
theorem wq_13_20 : Cond.methodLink RL 82 yX5_fetch ∈ wsL_law := in_r13 _ (List.mem_of_getElem? (i := 20) rfl)
theorem wq_13_21 : Cond.methodLink RL 97 yX3_count ∈ wsL_law := in_r13 _ (List.mem_of_getElem? (i := 21) rfl)
theorem wq_13_22 : Cond.instanceMethod yX3_count ∈ wsL_law := in_r13 _ (List.mem_of_getElem? (i := 22) rfl)
theorem wq_13_23 : Cond.selects RX3 yX3_count yX3_count ∈ wsL_law := in_r13 _ (List.mem_of_getElem? (i := 23) rfl)
theorem wq_14_0 : Cond.code yX3_count cX3_count 2 (some .int) ∈ wsL_law := in_r14 _ (List.mem_of_getElem? (i := 0) rfl)
theorem wq_14_1 : Cond.methodLink RX3 114 yX1_tally ∈ wsL_law := in_r14 _ (List.mem_of_getElem? (i := 1) rfl)
theorem wq_14_2 : Cond.instanceMethod yX1_tally ∈ wsL_law := in_r14 _ (List.mem_of_getElem? (i := 2) rfl)
theorem wq_14_3 : Cond.selects RX1 yX1_tally yX1_tally ∈ wsL_law := in_r14 _ (List.mem_of_getElem? (i := 3) rfl)
theorem wq_14_4 : Cond.code yX1_tally cX1_tally 2 (some .int) ∈ wsL_law := in_r14 _ (List.mem_of_getElem? (i := 4) rfl)
theorem wq_14_5 : Cond.methodLink RL 100 yX3_jar ∈ wsL_law := in_r14 _ (List.mem_of_getElem? (i := 5) rfl)
theorem wq_14_6 : Cond.instanceMethod yX3_jar ∈ wsL_law := in_r14 _ (List.mem_of_getElem? (i := 6) rfl)
theorem wq_14_7 : Cond.selects RX3 yX3_jar yX3_jar ∈ wsL_law := in_r14 _ (List.mem_of_getElem? (i := 7) rfl)
theorem wq_14_8 : Cond.code yX3_jar cX3_jar 3 (some .int) ∈ wsL_law := in_r14 _ (List.mem_of_getElem? (i := 8) rfl)
theorem wq_14_9 : Cond.methodLink RX3 95 yX1_detail ∈ wsL_law := in_r14 _ (List.mem_of_getElem? (i := 9) rfl)
theorem wq_14_10 : Cond.instanceMethod yX1_detail ∈ wsL_law := in_r14 _ (List.mem_of_getElem? (i := 10) rfl)
theorem wq_14_11 : Cond.selects RX1 yX1_detail yX1_detail ∈ wsL_law := in_r14 _ (List.mem_of_getElem? (i := 11) rfl)
theorem wq_14_12 : Cond.code yX1_detail cX1_detail 5 (some .int) ∈ wsL_law := in_r14 _ (List.mem_of_getElem? (i := 12) rfl)
theorem wq_14_13 : Cond.methodLink RL 103 yX3_next ∈ wsL_law := in_r14 _ (List.mem_of_getElem? (i := 13) rfl)
theorem wq_14_14 : Cond.instanceMethod yX3_next ∈ wsL_law := in_r14 _ (List.mem_of_getElem? (i := 14) rfl)
theorem wq_14_15 : Cond.selects RX3 yX3_next yX3_next ∈ wsL_law := in_r14 _ (List.mem_of_getElem? (i := 15) rfl)
theorem wq_14_16 : Cond.code yX3_next cX3_next 1 (some .int) ∈ wsL_law := in_r14 _ (List.mem_of_getElem? (i := 16) rfl)
theorem wq_14_17 : Cond.methodLink RX3 117 yX1_become ∈ wsL_law := in_r14 _ (List.mem_of_getElem? (i := 17) rfl)
theorem wq_14_18 : Cond.instanceMethod yX1_become ∈ wsL_law := in_r14 _ (List.mem_of_getElem? (i := 18) rfl)
theorem wq_14_19 : Cond.selects RX1 yX1_become yX1_become ∈ wsL_law := in_r14 _ (List.mem_of_getElem? (i := 19) rfl)
theorem wq_14_20 : Cond.code yX1_become cX1_become 2 none ∈ wsL_law := in_r14 _ (List.mem_of_getElem? (i := 20) rfl)
theorem wq_14_21 : Cond.methodLink RX1 44 yX0_become ∈ wsL_law := in_r14 _ (List.mem_of_getElem? (i := 21) rfl)
theorem wq_14_22 : Cond.instanceMethod yX0_become ∈ wsL_law := in_r14 _ (List.mem_of_getElem? (i := 22) rfl)
theorem wq_14_23 : Cond.selects RX0 yX0_become yX0_become ∈ wsL_law := in_r14 _ (List.mem_of_getElem? (i := 23) rfl)
theorem wq_15_0 : Cond.code yX0_become cX0_become 3 none ∈ wsL_law := in_r15 _ (List.mem_of_getElem? (i := 0) rfl)
theorem wq_15_1 : Cond.methodLink RX1 48 yX2_become ∈ wsL_law := in_r15 _ (List.mem_of_getElem? (i := 1) rfl)
theorem wq_15_2 : Cond.instanceMethod yX2_become ∈ wsL_law := in_r15 _ (List.mem_of_getElem? (i := 2) rfl)
theorem wq_15_3 : Cond.selects RX2 yX2_become yX2_become ∈ wsL_law := in_r15 _ (List.mem_of_getElem? (i := 3) rfl)
theorem wq_15_4 : Cond.code yX2_become cX2_become 3 none ∈ wsL_law := in_r15 _ (List.mem_of_getElem? (i := 4) rfl)
theorem wq_15_5 : Cond.methodLink RX3 121 yX1_sweep ∈ wsL_law := in_r15 _ (List.mem_of_getElem? (i := 5) rfl)
theorem wq_15_6 : Cond.methodLink RL 106 yX5_isSame ∈ wsL_law := in_r15 _ (List.mem_of_getElem? (i := 6) rfl)
theorem wq_15_7 : Cond.instanceMethod yX5_isSame ∈ wsL_law := in_r15 _ (List.mem_of_getElem? (i := 7) rfl)
theorem wq_15_8 : Cond.selects RX5 yX5_isSame yX5_isSame ∈ wsL_law := in_r15 _ (List.mem_of_getElem? (i := 8) rfl)
theorem wq_15_9 : Cond.code yX5_isSame cX5_isSame 9 (some .boolean) ∈ wsL_law := in_r15 _ (List.mem_of_getElem? (i := 9) rfl)
theorem wq_15_10 : Cond.methodLink RX5 103 yX3_jar ∈ wsL_law := in_r15 _ (List.mem_of_getElem? (i := 10) rfl)
theorem wq_15_11 : Cond.methodLink RX5 109 yX3_shelf ∈ wsL_law := in_r15 _ (List.mem_of_getElem? (i := 11) rfl)
theorem wq_15_12 : Cond.instanceMethod yX3_shelf ∈ wsL_law := in_r15 _ (List.mem_of_getElem? (i := 12) rfl)
theorem wq_15_13 : Cond.selects RX3 yX3_shelf yX3_shelf ∈ wsL_law := in_r15 _ (List.mem_of_getElem? (i := 13) rfl)
theorem wq_15_14 : Cond.code yX3_shelf cX3_shelf 3 (some .int) ∈ wsL_law := in_r15 _ (List.mem_of_getElem? (i := 14) rfl)
theorem wq_15_15 : Cond.methodLink RX3 98 yX3_requireShelf ∈ wsL_law := in_r15 _ (List.mem_of_getElem? (i := 15) rfl)
theorem wq_15_16 : Cond.static yX3_requireShelf ∈ wsL_law := in_r15 _ (List.mem_of_getElem? (i := 16) rfl)
theorem wq_15_17 : Cond.code yX3_requireShelf cX3_requireShelf 1 none ∈ wsL_law := in_r15 _ (List.mem_of_getElem? (i := 17) rfl)
theorem wq_15_18 : Cond.methodLink RX3 101 yX1_rowOf ∈ wsL_law := in_r15 _ (List.mem_of_getElem? (i := 18) rfl)
theorem wq_15_19 : Cond.methodLink RX3 105 yX3_requireAt ∈ wsL_law := in_r15 _ (List.mem_of_getElem? (i := 19) rfl)
theorem wq_15_20 : Cond.static yX3_requireAt ∈ wsL_law := in_r15 _ (List.mem_of_getElem? (i := 20) rfl)
theorem wq_15_21 : Cond.code yX3_requireAt cX3_requireAt 3 (some .int) ∈ wsL_law := in_r15 _ (List.mem_of_getElem? (i := 21) rfl)
theorem wq_15_22 : Cond.methodLink RX3 160 yX0_at ∈ wsL_law := in_r15 _ (List.mem_of_getElem? (i := 22) rfl)
theorem wq_15_23 : Cond.methodLink RX5 112 yX3_ghost ∈ wsL_law := in_r15 _ (List.mem_of_getElem? (i := 23) rfl)
theorem wq_16_0 : Cond.instanceMethod yX3_ghost ∈ wsL_law := in_r16 _ (List.mem_of_getElem? (i := 0) rfl)
theorem wq_16_1 : Cond.selects RX3 yX3_ghost yX3_ghost ∈ wsL_law := in_r16 _ (List.mem_of_getElem? (i := 1) rfl)
theorem wq_16_2 : Cond.code yX3_ghost cX3_ghost 3 (some .int) ∈ wsL_law := in_r16 _ (List.mem_of_getElem? (i := 2) rfl)
theorem wq_16_3 : Cond.methodLink RX3 109 yX1_listOf ∈ wsL_law := in_r16 _ (List.mem_of_getElem? (i := 3) rfl)
theorem wq_16_4 : Cond.methodLink RX5 115 yX3_count ∈ wsL_law := in_r16 _ (List.mem_of_getElem? (i := 4) rfl)
theorem wq_16_5 : Cond.methodLink RX5 118 yX3_mean ∈ wsL_law := in_r16 _ (List.mem_of_getElem? (i := 5) rfl)
theorem wq_16_6 : Cond.instanceMethod yX3_mean ∈ wsL_law := in_r16 _ (List.mem_of_getElem? (i := 6) rfl)
theorem wq_16_7 : Cond.selects RX3 yX3_mean yX3_mean ∈ wsL_law := in_r16 _ (List.mem_of_getElem? (i := 7) rfl)
theorem wq_16_8 : Cond.code yX3_mean cX3_mean 2 (some .double) ∈ wsL_law := in_r16 _ (List.mem_of_getElem? (i := 8) rfl)
theorem wq_16_9 : Cond.methodLink RX3 132 yX1_jars ∈ wsL_law := in_r16 _ (List.mem_of_getElem? (i := 9) rfl)
theorem wq_16_10 : Cond.methodLink RX3 135 yX1_fetchesOfAll ∈ wsL_law := in_r16 _ (List.mem_of_getElem? (i := 10) rfl)
theorem wq_16_11 : Cond.instanceMethod yX1_fetchesOfAll ∈ wsL_law := in_r16 _ (List.mem_of_getElem? (i := 11) rfl)
theorem wq_16_12 : Cond.selects RX1 yX1_fetchesOfAll yX1_fetchesOfAll ∈ wsL_law := in_r16 _ (List.mem_of_getElem? (i := 12) rfl)
theorem wq_16_13 : Cond.code yX1_fetchesOfAll cX1_fetchesOfAll 3 (some .int) ∈ wsL_law := in_r16 _ (List.mem_of_getElem? (i := 13) rfl)
theorem cw_RL_92 : CWI RL 92 yX3_init cX3_init 1 0 := ⟨wq_1_4, wq_1_5, wq_1_2, wq_1_6, rfl, ⟨by decide, by decide, by decide +kernel⟩⟩
theorem cw_RX3_9 : CWI RX3 9 yX1_init cX1_init 1 0 := ⟨wq_1_15, wq_1_16, wq_1_12, wq_1_17, rfl, ⟨by decide, by decide, by decide +kernel⟩⟩
theorem cw_RX1_11 : CWI RX1 11 yX0_init cX0_init 1 0 := ⟨wq_2_9, wq_2_10, wq_1_21, wq_2_11, rfl, ⟨by decide, by decide, by decide +kernel⟩⟩
theorem cw_RX1_29 : CWI RX1 29 yX2_init cX2_init 1 0 := ⟨wq_2_16, wq_2_17, wq_2_4, wq_2_18, rfl, ⟨by decide, by decide, by decide +kernel⟩⟩
theorem cw_RL_93 : CWS RL 93 yL_build cL_build 5 (some (.object "PinnedPantryLaw$Sim")) 2 := ⟨wq_2_21, wq_2_22, wq_2_23, wq_3_0, ⟨by decide, by decide, by decide +kernel⟩⟩
theorem cw_RL_84 : CWS RL 84 yL_cell cL_cell 2 (some .int) 2 := ⟨wq_3_13, wq_3_14, wq_2_23, wq_3_15, ⟨by decide, by decide, by decide +kernel⟩⟩
theorem cw_RL_19 : CWS RL 19 yL_below cL_below 2 (some .int) 2 := ⟨wq_3_17, wq_3_18, wq_2_23, wq_3_19, ⟨by decide, by decide, by decide +kernel⟩⟩
theorem cw_RL_88 : CWS RL 88 yL_act cL_act 10 (some .boolean) 3 := ⟨wq_3_21, wq_3_22, wq_2_23, wq_3_23, ⟨by decide, by decide, by decide +kernel⟩⟩
theorem cw_RL_25 : CWV RL 25 yX5_find cX5_find 10 (some (.object "PinnedPantryLaw$Jar")) 1 := ⟨wq_4_5, wq_4_6, wq_4_7, wq_3_3, wq_4_8, ⟨by decide, by decide, by decide +kernel⟩⟩
theorem cw_RL_35 : CWV RL 35 yX3_pin cX3_pin 2 (some .int) 1 := ⟨wq_4_10, wq_4_11, wq_4_12, wq_1_2, wq_4_13, ⟨by decide, by decide, by decide +kernel⟩⟩
theorem cw_RX3_19 : CWS RX3 19 yX3_requireKind cX3_requireKind 1 none 1 := ⟨wq_4_16, wq_4_17, wq_1_2, wq_4_18, ⟨by decide, by decide, by decide +kernel⟩⟩
theorem cw_RX3_42 : CWV RX3 42 yX3_requireJar cX3_requireJar 2 none 1 := ⟨wq_4_21, wq_4_22, wq_4_23, wq_1_2, wq_5_0, ⟨by decide, by decide, by decide +kernel⟩⟩
theorem cw_RX3_165 : CWV RX3 165 yX1_hasJar cX1_hasJar 2 (some .boolean) 1 := ⟨wq_5_1, wq_5_2, wq_5_3, wq_1_12, wq_5_4, ⟨by decide, by decide, by decide +kernel⟩⟩
theorem cw_RX1_66 : CWV RX1 66 yX0_has cX0_has 2 (some .boolean) 1 := ⟨wq_5_5, wq_5_6, wq_5_7, wq_1_21, wq_5_8, ⟨by decide, by decide, by decide +kernel⟩⟩
theorem cw_RX0_19 : CWV RX0 19 yX0_placeOf cX0_placeOf 3 (some .int) 1 := ⟨wq_5_9, wq_5_10, wq_5_11, wq_1_21, wq_5_12, ⟨by decide, by decide, by decide +kernel⟩⟩
theorem cw_RX3_49 : CWV RX3 49 yX2_of cX2_of 2 (some .int) 1 := ⟨wq_5_13, wq_5_14, wq_5_15, wq_2_4, wq_5_16, ⟨by decide, by decide, by decide +kernel⟩⟩
theorem cw_RX3_56 : CWV RX3 56 yX1_changePins cX1_changePins 3 (some .int) 2 := ⟨wq_5_17, wq_5_18, wq_5_19, wq_1_12, wq_5_20, ⟨by decide, by decide, by decide +kernel⟩⟩
theorem cw_RX1_81 : CWV RX1 81 yX2_of cX2_of 2 (some .int) 1 := ⟨wq_5_21, wq_5_14, wq_5_15, wq_2_4, wq_5_16, ⟨by decide, by decide, by decide +kernel⟩⟩
theorem cw_RX1_97 : CWV RX1 97 yX2_put cX2_put 3 none 2 := ⟨wq_5_22, wq_5_23, wq_6_0, wq_2_4, wq_6_1, ⟨by decide, by decide, by decide +kernel⟩⟩
theorem cw_RL_38 : CWV RL 38 yX3_unpin cX3_unpin 2 (some .int) 1 := ⟨wq_6_2, wq_6_3, wq_6_4, wq_1_2, wq_6_5, ⟨by decide, by decide, by decide +kernel⟩⟩
theorem cw_RL_45 : CWS RL 45 yL_without cL_without 4 (some (.array (.object "PinnedPantryLaw$Jar"))) 2 := ⟨wq_6_6, wq_6_7, wq_2_23, wq_6_8, ⟨by decide, by decide, by decide +kernel⟩⟩
theorem cw_RL_49 : CWV RL 49 yX3_eat cX3_eat 2 (some .int) 1 := ⟨wq_6_10, wq_6_11, wq_6_12, wq_1_2, wq_6_13, ⟨by decide, by decide, by decide +kernel⟩⟩
theorem cw_RX3_64 : CWV RX3 64 yX1_remove cX1_remove 2 (some .int) 1 := ⟨wq_6_14, wq_6_15, wq_6_16, wq_1_12, wq_6_17, ⟨by decide, by decide, by decide +kernel⟩⟩
theorem cw_RX1_124 : CWV RX1 124 yX0_placeOf cX0_placeOf 3 (some .int) 1 := ⟨wq_6_18, wq_5_10, wq_5_11, wq_1_21, wq_5_12, ⟨by decide, by decide, by decide +kernel⟩⟩
theorem cw_RX1_127 : CWV RX1 127 yX0_takeOut cX0_takeOut 3 none 1 := ⟨wq_6_19, wq_6_20, wq_6_21, wq_1_21, wq_6_22, ⟨by decide, by decide, by decide +kernel⟩⟩
theorem cw_RL_55 : CWV RL 55 yX5_pinned cX5_pinned 10 (some .int) 0 := ⟨wq_6_23, wq_7_0, wq_7_1, wq_3_3, wq_7_2, ⟨by decide, by decide, by decide +kernel⟩⟩
theorem cw_RL_62 : CWV RL 62 yX5_setPlaces cX5_setPlaces 3 none 1 := ⟨wq_7_4, wq_7_5, wq_7_6, wq_3_3, wq_7_7, ⟨by decide, by decide, by decide +kernel⟩⟩
theorem cw_RX5_83 : CWV RX5 83 yX5_all cX5_all 1 (some .int) 0 := ⟨wq_7_9, wq_7_10, wq_7_11, wq_3_3, wq_7_12, ⟨by decide, by decide, by decide +kernel⟩⟩
theorem cw_RX5_94 : CWV RX5 94 yX5_sweep cX5_sweep 4 (some .int) 0 := ⟨wq_7_13, wq_7_14, wq_7_15, wq_3_3, wq_7_16, ⟨by decide, by decide, by decide +kernel⟩⟩
theorem cw_RX5_53 : CWV RX5 53 yX5_free cX5_free 7 (some .int) 1 := ⟨wq_7_19, wq_7_20, wq_7_21, wq_3_3, wq_7_22, ⟨by decide, by decide, by decide +kernel⟩⟩
theorem cw_RL_66 : CWV RL 66 yX3_setPlaces cX3_setPlaces 3 (some .int) 1 := ⟨wq_8_5, wq_8_6, wq_8_7, wq_1_2, wq_8_8, ⟨by decide, by decide, by decide +kernel⟩⟩
theorem cw_RX3_72 : CWV RX3 72 yX1_pinnedJars cX1_pinnedJars 1 (some .int) 0 := ⟨wq_8_11, wq_8_12, wq_8_13, wq_1_12, wq_8_14, ⟨by decide, by decide, by decide +kernel⟩⟩
theorem cw_RX1_73 : CWV RX1 73 yX1_pinnedOn cX1_pinnedOn 4 (some .int) 1 := ⟨wq_8_15, wq_8_16, wq_8_17, wq_1_12, wq_8_18, ⟨by decide, by decide, by decide +kernel⟩⟩
theorem cw_RX1_77 : CWV RX1 77 yX0_at cX0_at 2 (some .int) 1 := ⟨wq_8_19, wq_8_20, wq_8_21, wq_1_21, wq_8_22, ⟨by decide, by decide, by decide +kernel⟩⟩
theorem cw_RX3_82 : CWV RX3 82 yX1_resize cX1_resize 3 none 1 := ⟨wq_8_23, wq_9_0, wq_9_1, wq_1_12, wq_9_2, ⟨by decide, by decide, by decide +kernel⟩⟩
theorem cw_RX1_87 : CWV RX1 87 yX1_jars cX1_jars 1 (some .int) 0 := ⟨wq_9_8, wq_9_9, wq_9_10, wq_1_12, wq_9_11, ⟨by decide, by decide, by decide +kernel⟩⟩
theorem cw_RX1_104 : CWV RX1 104 yX1_sweep cX1_sweep 5 (some .int) 0 := ⟨wq_9_12, wq_9_13, wq_9_14, wq_1_12, wq_9_15, ⟨by decide, by decide, by decide +kernel⟩⟩
theorem cw_RX1_91 : CWV RX1 91 yX1_pinnedJars cX1_pinnedJars 1 (some .int) 0 := ⟨wq_9_18, wq_8_12, wq_8_13, wq_1_12, wq_8_14, ⟨by decide, by decide, by decide +kernel⟩⟩
theorem cw_RX1_138 : CWV RX1 138 yX1_givingShelf cX1_givingShelf 4 (some .int) 0 := ⟨wq_9_19, wq_9_20, wq_9_21, wq_1_12, wq_9_22, ⟨by decide, by decide, by decide +kernel⟩⟩
theorem cw_RX1_141 : CWV RX1 141 yX1_rowOf cX1_rowOf 2 (some (.object "PinnedPantry$Row")) 1 := ⟨wq_10_2, wq_10_3, wq_10_4, wq_1_12, wq_10_5, ⟨by decide, by decide, by decide +kernel⟩⟩
theorem cw_RX1_134 : CWV RX1 134 yX0_append cX0_append 2 none 1 := ⟨wq_10_6, wq_10_7, wq_10_8, wq_1_21, wq_10_9, ⟨by decide, by decide, by decide +kernel⟩⟩
theorem cw_RX1_145 : CWV RX1 145 yX1_listOf cX1_listOf 2 (some (.object "PinnedPantry$Row")) 1 := ⟨wq_10_10, wq_10_11, wq_10_12, wq_1_12, wq_10_13, ⟨by decide, by decide, by decide +kernel⟩⟩
theorem cw_RX1_148 : CWV RX1 148 yX0_forgetEldest cX0_forgetEldest 3 none 1 := ⟨wq_10_14, wq_10_15, wq_10_16, wq_1_21, wq_10_17, ⟨by decide, by decide, by decide +kernel⟩⟩
theorem cw_RX0_23 : CWV RX0 23 yX0_takeOut cX0_takeOut 3 none 1 := ⟨wq_10_18, wq_6_20, wq_6_21, wq_1_21, wq_6_22, ⟨by decide, by decide, by decide +kernel⟩⟩
theorem cw_RL_71 : CWV RL 71 yX3_setGoal cX3_setGoal 3 (some .int) 1 := ⟨wq_10_19, wq_10_20, wq_10_21, wq_1_2, wq_10_22, ⟨by decide, by decide, by decide +kernel⟩⟩
theorem cw_RL_74 : CWV RL 74 yX3_fetchAll cX3_fetchAll 4 (some .int) 3 := ⟨wq_10_23, wq_11_0, wq_11_1, wq_1_2, wq_11_2, ⟨by decide, by decide, by decide +kernel⟩⟩
theorem cw_RX3_34 : CWS RX3 34 yX3_requireSeries cX3_requireSeries 3 none 3 := ⟨wq_11_3, wq_11_4, wq_1_2, wq_11_5, ⟨by decide, by decide, by decide +kernel⟩⟩
theorem cw_RX3_38 : CWV RX3 38 yX1_bringSeries cX1_bringSeries 6 (some .int) 3 := ⟨wq_11_6, wq_11_7, wq_11_8, wq_1_12, wq_11_9, ⟨by decide, by decide, by decide +kernel⟩⟩
theorem cw_RX1_111 : CWV RX1 111 yX1_bring cX1_bring 3 (some .int) 1 := ⟨wq_11_11, wq_11_12, wq_11_13, wq_1_12, wq_11_14, ⟨by decide, by decide, by decide +kernel⟩⟩
theorem cw_RX1_94 : CWV RX1 94 yX1_forecast cX1_forecast 2 (some .int) 1 := ⟨wq_11_16, wq_11_17, wq_11_18, wq_1_12, wq_11_19, ⟨by decide, by decide, by decide +kernel⟩⟩
theorem cw_RX1_84 : CWV RX1 84 yX1_hasJar cX1_hasJar 2 (some .boolean) 1 := ⟨wq_11_20, wq_5_2, wq_5_3, wq_1_12, wq_5_4, ⟨by decide, by decide, by decide +kernel⟩⟩
theorem cw_RX1_101 : CWV RX1 101 yX1_recall cX1_recall 3 none 2 := ⟨wq_11_21, wq_11_22, wq_11_23, wq_1_12, wq_12_0, ⟨by decide, by decide, by decide +kernel⟩⟩
theorem cw_RX1_114 : CWS RX1 114 yX1_turn cX1_turn 3 (some .int) 2 := ⟨wq_12_2, wq_12_3, wq_1_12, wq_12_4, ⟨by decide, by decide, by decide +kernel⟩⟩
theorem cw_RX1_107 : CWV RX1 107 yX1_placeNewJar cX1_placeNewJar 3 none 2 := ⟨wq_12_5, wq_12_6, wq_12_7, wq_1_12, wq_12_8, ⟨by decide, by decide, by decide +kernel⟩⟩
theorem cw_RL_78 : CWV RL 78 yX5_fetchAll cX5_fetchAll 7 (some .int) 3 := ⟨wq_12_9, wq_12_10, wq_12_11, wq_3_3, wq_12_12, ⟨by decide, by decide, by decide +kernel⟩⟩
theorem cw_RX5_100 : CWV RX5 100 yX5_fetch cX5_fetch 5 (some .int) 1 := ⟨wq_12_13, wq_12_14, wq_12_15, wq_3_3, wq_12_16, ⟨by decide, by decide, by decide +kernel⟩⟩
theorem cw_RX5_76 : CWV RX5 76 yX5_find cX5_find 10 (some (.object "PinnedPantryLaw$Jar")) 1 := ⟨wq_12_23, wq_4_6, wq_4_7, wq_3_3, wq_4_8, ⟨by decide, by decide, by decide +kernel⟩⟩
theorem cw_RX5_87 : CWV RX5 87 yX5_pinned cX5_pinned 10 (some .int) 0 := ⟨wq_13_0, wq_7_0, wq_7_1, wq_3_3, wq_7_2, ⟨by decide, by decide, by decide +kernel⟩⟩
theorem cw_RX5_90 : CWV RX5 90 yX5_list cX5_list 4 (some (.array .int)) 1 := ⟨wq_13_1, wq_13_2, wq_13_3, wq_3_3, wq_13_4, ⟨by decide, by decide, by decide +kernel⟩⟩
theorem cw_RX5_97 : CWI RX5 97 yX4_init cX4_init 2 1 := ⟨wq_13_5, wq_13_6, wq_12_22, wq_13_7, rfl, ⟨by decide, by decide, by decide +kernel⟩⟩
theorem cw_RL_11 : CWV RL 11 yX3_fetch cX3_fetch 3 (some .int) 1 := ⟨wq_13_15, wq_13_16, wq_13_17, wq_1_2, wq_13_18, ⟨by decide, by decide, by decide +kernel⟩⟩
theorem cw_RX3_23 : CWV RX3 23 yX1_bring cX1_bring 3 (some .int) 1 := ⟨wq_13_19, wq_11_12, wq_11_13, wq_1_12, wq_11_14, ⟨by decide, by decide, by decide +kernel⟩⟩
theorem cw_RL_82 : CWV RL 82 yX5_fetch cX5_fetch 5 (some .int) 1 := ⟨wq_13_20, wq_12_14, wq_12_15, wq_3_3, wq_12_16, ⟨by decide, by decide, by decide +kernel⟩⟩
theorem cw_RL_97 : CWV RL 97 yX3_count cX3_count 2 (some .int) 1 := ⟨wq_13_21, wq_13_22, wq_13_23, wq_1_2, wq_14_0, ⟨by decide, by decide, by decide +kernel⟩⟩
theorem cw_RX3_114 : CWV RX3 114 yX1_tally cX1_tally 2 (some .int) 1 := ⟨wq_14_1, wq_14_2, wq_14_3, wq_1_12, wq_14_4, ⟨by decide, by decide, by decide +kernel⟩⟩
theorem cw_RL_100 : CWV RL 100 yX3_jar cX3_jar 3 (some .int) 2 := ⟨wq_14_5, wq_14_6, wq_14_7, wq_1_2, wq_14_8, ⟨by decide, by decide, by decide +kernel⟩⟩
theorem cw_RX3_95 : CWV RX3 95 yX1_detail cX1_detail 5 (some .int) 2 := ⟨wq_14_9, wq_14_10, wq_14_11, wq_1_12, wq_14_12, ⟨by decide, by decide, by decide +kernel⟩⟩
theorem cw_RL_103 : CWV RL 103 yX3_next cX3_next 1 (some .int) 0 := ⟨wq_14_13, wq_14_14, wq_14_15, wq_1_2, wq_14_16, ⟨by decide, by decide, by decide +kernel⟩⟩
theorem cw_RX3_117 : CWV RX3 117 yX1_become cX1_become 2 none 1 := ⟨wq_14_17, wq_14_18, wq_14_19, wq_1_12, wq_14_20, ⟨by decide, by decide, by decide +kernel⟩⟩
theorem cw_RX1_44 : CWV RX1 44 yX0_become cX0_become 3 none 1 := ⟨wq_14_21, wq_14_22, wq_14_23, wq_1_21, wq_15_0, ⟨by decide, by decide, by decide +kernel⟩⟩
theorem cw_RX1_48 : CWV RX1 48 yX2_become cX2_become 3 none 1 := ⟨wq_15_1, wq_15_2, wq_15_3, wq_2_4, wq_15_4, ⟨by decide, by decide, by decide +kernel⟩⟩
theorem cw_RX3_121 : CWV RX3 121 yX1_sweep cX1_sweep 5 (some .int) 0 := ⟨wq_15_5, wq_9_13, wq_9_14, wq_1_12, wq_9_15, ⟨by decide, by decide, by decide +kernel⟩⟩
theorem cw_RL_106 : CWV RL 106 yX5_isSame cX5_isSame 9 (some .boolean) 1 := ⟨wq_15_6, wq_15_7, wq_15_8, wq_3_3, wq_15_9, ⟨by decide, by decide, by decide +kernel⟩⟩
theorem cw_RX5_103 : CWV RX5 103 yX3_jar cX3_jar 3 (some .int) 2 := ⟨wq_15_10, wq_14_6, wq_14_7, wq_1_2, wq_14_8, ⟨by decide, by decide, by decide +kernel⟩⟩
theorem cw_RX5_109 : CWV RX5 109 yX3_shelf cX3_shelf 3 (some .int) 2 := ⟨wq_15_11, wq_15_12, wq_15_13, wq_1_2, wq_15_14, ⟨by decide, by decide, by decide +kernel⟩⟩
theorem cw_RX3_98 : CWS RX3 98 yX3_requireShelf cX3_requireShelf 1 none 1 := ⟨wq_15_15, wq_15_16, wq_1_2, wq_15_17, ⟨by decide, by decide, by decide +kernel⟩⟩
theorem cw_RX3_101 : CWV RX3 101 yX1_rowOf cX1_rowOf 2 (some (.object "PinnedPantry$Row")) 1 := ⟨wq_15_18, wq_10_3, wq_10_4, wq_1_12, wq_10_5, ⟨by decide, by decide, by decide +kernel⟩⟩
theorem cw_RX3_105 : CWS RX3 105 yX3_requireAt cX3_requireAt 3 (some .int) 2 := ⟨wq_15_19, wq_15_20, wq_1_2, wq_15_21, ⟨by decide, by decide, by decide +kernel⟩⟩
theorem cw_RX3_160 : CWV RX3 160 yX0_at cX0_at 2 (some .int) 1 := ⟨wq_15_22, wq_8_20, wq_8_21, wq_1_21, wq_8_22, ⟨by decide, by decide, by decide +kernel⟩⟩
theorem cw_RX5_112 : CWV RX5 112 yX3_ghost cX3_ghost 3 (some .int) 2 := ⟨wq_15_23, wq_16_0, wq_16_1, wq_1_2, wq_16_2, ⟨by decide, by decide, by decide +kernel⟩⟩
theorem cw_RX3_109 : CWV RX3 109 yX1_listOf cX1_listOf 2 (some (.object "PinnedPantry$Row")) 1 := ⟨wq_16_3, wq_10_11, wq_10_12, wq_1_12, wq_10_13, ⟨by decide, by decide, by decide +kernel⟩⟩
theorem cw_RX5_115 : CWV RX5 115 yX3_count cX3_count 2 (some .int) 1 := ⟨wq_16_4, wq_13_22, wq_13_23, wq_1_2, wq_14_0, ⟨by decide, by decide, by decide +kernel⟩⟩
theorem cw_RX5_118 : CWV RX5 118 yX3_mean cX3_mean 2 (some .double) 0 := ⟨wq_16_5, wq_16_6, wq_16_7, wq_1_2, wq_16_8, ⟨by decide, by decide, by decide +kernel⟩⟩
theorem cw_RX3_132 : CWV RX3 132 yX1_jars cX1_jars 1 (some .int) 0 := ⟨wq_16_9, wq_9_9, wq_9_10, wq_1_12, wq_9_11, ⟨by decide, by decide, by decide +kernel⟩⟩
theorem cw_RX3_135 : CWV RX3 135 yX1_fetchesOfAll cX1_fetchesOfAll 3 (some .int) 0 := ⟨wq_16_10, wq_16_11, wq_16_12, wq_1_12, wq_16_13, ⟨by decide, by decide, by decide +kernel⟩⟩
end
section
/-! THE JUDGEMENT: a method's walk over a world in lists, heap and locals hidden (KJ); its constants in one tuple (KX). -/
abbrev KX : Type := Program × Env × State × MethodId × Array Value × List Frame × Method × Code × (State → Prop) × (Nat → Prop)
abbrev kp (G : KX) : Program := G.1
abbrev ke (G : KX) : Env := G.2.1
abbrev ks (G : KX) : State := G.2.2.1
abbrev km (G : KX) : MethodId := G.2.2.2.1
abbrev ka (G : KX) : Array Value := G.2.2.2.2.1
abbrev kb (G : KX) : List Frame := G.2.2.2.2.2.1
abbrev kme (G : KX) : Method := G.2.2.2.2.2.2.1
abbrev kc (G : KX) : Code := G.2.2.2.2.2.2.2.1
abbrev kQ (G : KX) : State → Prop := G.2.2.2.2.2.2.2.2.1
abbrev kA (G : KX) : Nat → Prop := G.2.2.2.2.2.2.2.2.2
/-- the arrays' classes stand in D behind the objects' -/
abbrev kty (D : va_G) : List (ClassId × FieldType) := [(D.1 20, .int), (D.1 21, .boolean), (D.1 22, .object RX4), (D.1 23, .array (.object RX4)), (D.1 24, .array .int)]
def va_AA (t : FieldType) (U : State) : Prop := (Cond.arrayOver (.array t)).before #[] U = true
theorem va_AA.moved {t : FieldType} {u U : State} (hvm : u.vm.Alike U.vm) (h : va_AA t u) : va_AA t U := by
  obtain ⟨comp, c, k, h1, h2, h3, h4, h5⟩ := arrayOverA_spec h
  obtain ⟨k', hk', he⟩ := hvm.2.2 _ _ h3
  have hi : (U.vm.classes.findIdx? fun (x : Class) => match x.kind with | .array component _ => component == comp | _ => false) = some c := by
    rw [hvm.findIdx?_eq _ (fun _ => rfl)]
    exact h2
  have hkind : k'.kind = .array comp (.array t) := by rw [he]; exact h4
  have f1 : U.vm.findClass (FieldType.array t).toString = some comp := by rw [hvm.findClass]; exact h1
  have f2 : U.vm.findClass ("[" ++ (FieldType.array t).toString) = some c := by rw [hvm.findClass]; exact h5
  unfold va_AA Cond.before Cond.holds
  simp only [Cond.value]
  rw [f1, Option.bind_some]
  refine (congrArg (fun o : Option Nat => (o.bind (fun c => (U.vm.classes[c]?).map fun (k : Class) => match k.kind with | .array _ ty => decide (ty = FieldType.array t) && decide (U.vm.findClass ("[" ++ (FieldType.array t).toString) = some c) | _ => false) == some true)) hi).trans ?_
  simp [hk', hkind, f2]
theorem va_AA.same {t : FieldType} {u U : State} (e : u.vm = U.vm) (h : va_AA t u) : va_AA t U := va_AA.moved (by rw [e]; exact Vm.Alike.refl U.vm) h
/-- what the tables say, beside the words -/
def KT (D : va_G) (U : State) : Prop := va_K D vwCl (kty D) U ∧ va_Nw (.fieldLinkNest RX1 70 RX0 "length" "I" RX3) U ∧ va_Nw (.fieldLinkNest RX3 45 RX1 "pins" "LPinnedPantry$Table;" RX3) U ∧ va_Nw (.fieldLinkNest RX3 78 RX1 "places" "I" RX3) U ∧ va_Nw (.fieldLinkNest RX3 87 RX1 "goal" "I" RX3) U ∧ va_AA .int U ∧ va_AA (.object RX4) U ∧ va_AO RX4 U ∧ va_Nw (.methodLinkNest RL 83 yX5_init RL) U ∧ va_Nw (.methodLinkNest RX5 57 yL_without RL) U ∧ va_Nw (.methodLinkNest RX5 63 yL_with RL) U ∧ va_Nw (.methodLinkNest RX5 71 yL_with_ RL) U ∧ va_Nw (.methodLinkNest RX5 74 yL_without_ RL) U
theorem KT.warm {D : va_G} {s U : State} (hW : s.WarmedH U.vm) (h : KT D s) : KT D U := by
  obtain ⟨h0, h1, h2, h3, h4, h5, h6, h7, h8, h9, h10, h11, h12⟩ := h
  exact ⟨va_K.moved hW.alike h0, va_Nw.warmF hW h1, va_Nw.warmF hW h2, va_Nw.warmF hW h3, va_Nw.warmF hW h4, va_AA.moved hW.alike h5, va_AA.moved hW.alike h6, va_AO.moved hW.alike h7, va_Nw.warmM hW h8, va_Nw.warmM hW h9, va_Nw.warmM hW h10, va_Nw.warmM hW h11, va_Nw.warmM hW h12⟩
theorem KT.same {D : va_G} {u U : State} (h : u.vm = U.vm) (hZ : KT D u) : KT D U := by
  obtain ⟨h0, h1, h2, h3, h4, h5, h6, h7, h8, h9, h10, h11, h12⟩ := hZ
  exact ⟨va_K.moved (by rw [h]; exact Vm.Alike.refl U.vm) h0, va_Nw.same rfl h h1, va_Nw.same rfl h h2, va_Nw.same rfl h h3, va_Nw.same rfl h h4, va_AA.same h h5, va_AA.same h h6, va_AO.moved (by rw [h]; exact Vm.Alike.refl U.vm) h7, va_Nw.same rfl h h8, va_Nw.same rfl h h9, va_Nw.same rfl h h10, va_Nw.same rfl h h11, va_Nw.same rfl h h12⟩
def KJ (l : Launch) (G : KX) (D : va_G) (R : Room) (nL ce sl : Nat) (ws : va_W) (lv : List (Nat × Value)) (pc : Nat) (st : List Value) : Prop :=
  ∀ (H : Heap) (locs : List Loc) (ls : Array Slot), va_P D vwCl ws H → va_D (kA G) ws → va_S (kA G) (ks G).heap H locs → lv_has ls nL lv → W (kp G) l (ke G) R (ks G) (km G) (ka G) (kb G) (kme G) (kc G) H locs ce sl (kQ G) (F0 (km G) pc ls st)
def CX (G : KX) (D : va_G) (cc : ByteArray) (own : String) (nL : Nat) : Prop :=
  (kp G).tables.exec = Jvm.exec ∧ (kc G).code = cc ∧ (kc G).maxLocals = nL ∧ (ks G).vm.findClass own = some (km G).cls ∧ (∀ w ∈ wsL_law, w.before (ka G) (ks G) = true) ∧ KT D (ks G) ∧ ∀ q : Nat, (ks G).heap.size ≤ q → kA G q
section CXs
variable {G : KX} {D : va_G} {cc : ByteArray} {own : String} {nL : Nat}
theorem CX.ex (h : CX G D cc own nL) : (kp G).tables.exec = Jvm.exec := h.1
theorem CX.cd (h : CX G D cc own nL) : (kc G).code = cc := h.2.1
theorem CX.ml (h : CX G D cc own nL) : (kc G).maxLocals = nL := h.2.2.1
theorem CX.on (h : CX G D cc own nL) : (ks G).vm.findClass own = some (km G).cls := h.2.2.2.1
theorem CX.wd (h : CX G D cc own nL) : ∀ w ∈ wsL_law, w.before (ka G) (ks G) = true := h.2.2.2.2.1
theorem CX.kt (h : CX G D cc own nL) : KT D (ks G) := h.2.2.2.2.2.1
theorem CX.kk (h : CX G D cc own nL) : va_K D vwCl (kty D) (ks G) := h.2.2.2.2.2.1.1
theorem CX.nw (h : CX G D cc own nL) : ∀ q : Nat, (ks G).heap.size ≤ q → kA G q := h.2.2.2.2.2.2
theorem CX.fix (h : CX G D cc own nL) : CallFix (kp G) (km G) (kc G) cc nL (ks G) (ka G) wsL_law own := ⟨h.ex, h.cd, h.ml, h.on, h.wd⟩
end CXs
/-- a local by its number -/
def lvg : List (Nat × Value) → Nat → Option Value
  | [], _ => none
  | (a, v) :: l, i => match Nat.beq a i with
    | true => some v
    | false => lvg l i
theorem lvg_at {ls : Array Slot} {n : Nat} : ∀ {lv : List (Nat × Value)} {i : Nat} {v : Value}, lv_has ls n lv → lvg lv i = some v → ls[i]? = some (.val v)
  | [], _, _, _, h => by cases h
  | (a, w) :: l, i, v, hl, h => by
    unfold lvg at h
    cases hb : Nat.beq a i with
    | true =>
      rw [hb] at h
      have e : a = i := Nat.eq_of_beq_eq_true hb
      subst e
      cases h
      exact hl.2.2 (a, w) List.mem_cons_self
    | false =>
      rw [hb] at h
      exact lvg_at ⟨hl.1, hl.2.1, fun q hq => hl.2.2 q (List.mem_cons_of_mem _ hq)⟩ h
section KS
variable {l : Launch} {G : KX} {D : va_G} {R : Room} {cc : ByteArray} {own : String} {nL ce sl : Nat} {ws : va_W} {lv lv' : List (Nat × Value)} {st : List Value}
theorem KJ.eqs {pc : Nat} {st' : List Value} (e : st = st') (k : KJ l G D R nL ce sl ws lv pc st') : KJ l G D R nL ce sl ws lv pc st := by rw [e]; exact k
theorem KJ.eqw {pc : Nat} {ws' : va_W} (e : ws = ws') (k : KJ l G D R nL ce sl ws' lv pc st) : KJ l G D R nL ce sl ws lv pc st := by rw [e]; exact k
theorem KJ.topi {pc : Nat} {x y : Int32} (e : x = y) (k : KJ l G D R nL ce sl ws lv pc (.int y :: st)) : KJ l G D R nL ce sl ws lv pc (.int x :: st) := by rw [e]; exact k
theorem KJ.topl {pc : Nat} {x y : Int64} (e : x = y) (k : KJ l G D R nL ce sl ws lv pc (.long y :: st)) : KJ l G D R nL ce sl ws lv pc (.long x :: st) := by rw [e]; exact k
theorem KJ.wide {pc ce' sl' : Nat} (h1 : ce ≤ ce') (h2 : sl ≤ sl') (k : KJ l G D R nL ce' sl' ws lv pc st) : KJ l G D R nL ce sl ws lv pc st := fun H locs ls hP hD hS hl => W.widen h1 h2 (k H locs ls hP hD hS hl)
/-- fewer locals, in any order, by their numbers -/
theorem KJ.lvs {pc : Nat} (h : lv'.all (fun q => match lvg lv q.1 with | some _ => true | none => false) = true) (h2 : ∀ q ∈ lv', lvg lv q.1 = some q.2) (k : KJ l G D R nL ce sl ws lv' pc st) : KJ l G D R nL ce sl ws lv pc st := fun H locs ls hP hD hS hl => k H locs ls hP hD hS ⟨hl.1, hl.2.1, fun q hq => lvg_at hl (h2 q hq)⟩
theorem KJ.lvp {pc : Nat} (ks : List Nat) (h : lv_pick lv ks = lv') (k : KJ l G D R nL ce sl ws lv' pc st) : KJ l G D R nL ce sl ws lv pc st := fun H locs ls hP hD hS hl => k H locs ls hP hD hS (lv_sub hl ks h)
/-- a part of the world, in any order -/
theorem KJ.sub {pc : Nat} {ws' : va_W} (is : List Nat) (hn : va_nd is = true) (h1 : is.filterMap (fun i => ws[i]?) = ws') (h2 : is.map (fun i => ws[i]?) = ws'.map some) (k : KJ l G D R nL ce sl ws' lv pc st) : KJ l G D R nL ce sl ws lv pc st := fun H locs ls hP hD hS hl => k H locs ls (hP.sub is h1) (hD.sub is hn h2) hS hl

theorem k_iconst (hC : CX G D cc own nL) (pc : Nat) {n : Int} (hdg : decode cc pc = .ok (.iconst n, 1)) (v : Int32) (hv : Int32.ofInt n = v) (k : KJ l G D R nL ce sl ws lv (pc + 1) (.int v :: st)) : KJ l G D R nL ce sl ws lv pc (st) := fun H locs ls hP hD hS hl => lv_iconst hC.ex hC.cd hdg hv (k H locs ls hP hD hS hl)
theorem k_bipush (hC : CX G D cc own nL) (pc : Nat) {n : Int} (hdg : decode cc pc = .ok (.bipush n, 2)) (v : Int32) (hv : (Int8.ofInt n).toInt32 = v) (k : KJ l G D R nL ce sl ws lv (pc + 2) (.int v :: st)) : KJ l G D R nL ce sl ws lv pc (st) := fun H locs ls hP hD hS hl => lv_bipush hC.ex hC.cd hdg hv (k H locs ls hP hD hS hl)
theorem k_sipush (hC : CX G D cc own nL) (pc : Nat) {n : Int} (hdg : decode cc pc = .ok (.sipush n, 3)) (v : Int32) (hv : (Int16.ofInt n).toInt32 = v) (k : KJ l G D R nL ce sl ws lv (pc + 3) (.int v :: st)) : KJ l G D R nL ce sl ws lv pc (st) := fun H locs ls hP hD hS hl => lv_sipush hC.ex hC.cd hdg hv (k H locs ls hP hD hS hl)
theorem k_iload_n (hC : CX G D cc own nL) (pc : Nat) {k0 : Fin 4} (hdg : decode cc pc = .ok (.iload_n k0, 1)) {x : Int32} (hg : lvg lv (k0 : Nat) = some (.int x)) (k : KJ l G D R nL ce sl ws lv (pc + 1) (.int x :: st)) : KJ l G D R nL ce sl ws lv pc (st) := fun H locs ls hP hD hS hl => lv_iload_n hC.ex hC.cd hdg rfl (lvg_at hl hg) (k H locs ls hP hD hS hl)
theorem k_iload (hC : CX G D cc own nL) (pc : Nat) {i0 : Nat} (hdg : decode cc pc = .ok (.iload i0, 2)) {x : Int32} (hg : lvg lv i0 = some (.int x)) (k : KJ l G D R nL ce sl ws lv (pc + 2) (.int x :: st)) : KJ l G D R nL ce sl ws lv pc (st) := fun H locs ls hP hD hS hl => lv_iload hC.ex hC.cd hdg (lvg_at hl hg) (k H locs ls hP hD hS hl)
theorem k_lload_n (hC : CX G D cc own nL) (pc : Nat) {k0 : Fin 4} (hdg : decode cc pc = .ok (.lload_n k0, 1)) {x : Int64} (hg : lvg lv (k0 : Nat) = some (.long x)) (k : KJ l G D R nL ce sl ws lv (pc + 1) (.long x :: st)) : KJ l G D R nL ce sl ws lv pc (st) := fun H locs ls hP hD hS hl => lv_lload_n hC.ex hC.cd hdg rfl (lvg_at hl hg) (k H locs ls hP hD hS hl)
theorem k_lload (hC : CX G D cc own nL) (pc : Nat) {i0 : Nat} (hdg : decode cc pc = .ok (.lload i0, 2)) {x : Int64} (hg : lvg lv i0 = some (.long x)) (k : KJ l G D R nL ce sl ws lv (pc + 2) (.long x :: st)) : KJ l G D R nL ce sl ws lv pc (st) := fun H locs ls hP hD hS hl => lv_lload hC.ex hC.cd hdg (lvg_at hl hg) (k H locs ls hP hD hS hl)
theorem k_aload_n (hC : CX G D cc own nL) (pc : Nat) {k0 : Fin 4} (hdg : decode cc pc = .ok (.aload_n k0, 1)) {x : Nat} (hg : lvg lv (k0 : Nat) = some (.ref x)) (k : KJ l G D R nL ce sl ws lv (pc + 1) (.ref x :: st)) : KJ l G D R nL ce sl ws lv pc (st) := fun H locs ls hP hD hS hl => lv_aload_n hC.ex hC.cd hdg rfl (lvg_at hl hg) (k H locs ls hP hD hS hl)
theorem k_aload (hC : CX G D cc own nL) (pc : Nat) {i0 : Nat} (hdg : decode cc pc = .ok (.aload i0, 2)) {x : Nat} (hg : lvg lv i0 = some (.ref x)) (k : KJ l G D R nL ce sl ws lv (pc + 2) (.ref x :: st)) : KJ l G D R nL ce sl ws lv pc (st) := fun H locs ls hP hD hS hl => lv_aload hC.ex hC.cd hdg (lvg_at hl hg) (k H locs ls hP hD hS hl)
theorem k_dload_n (hC : CX G D cc own nL) (pc : Nat) {k0 : Fin 4} (hdg : decode cc pc = .ok (.dload_n k0, 1)) {x : UInt64} (hg : lvg lv (k0 : Nat) = some (.double x)) (k : KJ l G D R nL ce sl ws lv (pc + 1) (.double x :: st)) : KJ l G D R nL ce sl ws lv pc (st) := fun H locs ls hP hD hS hl => lv_dload_n hC.ex hC.cd hdg rfl (lvg_at hl hg) (k H locs ls hP hD hS hl)
theorem k_dload (hC : CX G D cc own nL) (pc : Nat) {i0 : Nat} (hdg : decode cc pc = .ok (.dload i0, 2)) {x : UInt64} (hg : lvg lv i0 = some (.double x)) (k : KJ l G D R nL ce sl ws lv (pc + 2) (.double x :: st)) : KJ l G D R nL ce sl ws lv pc (st) := fun H locs ls hP hD hS hl => lv_dload hC.ex hC.cd hdg (lvg_at hl hg) (k H locs ls hP hD hS hl)
theorem k_istore_n (hC : CX G D cc own nL) (pc : Nat) {k0 : Fin 4} (i1 : Nat) {x : Int32} (lv' : List (Nat × Value)) (hdg : decode cc pc = .ok (.istore_n k0, 1)) (hi : (k0 : Nat) = i1) (hn : i1 < nL) (he : (i1, Value.int x) :: lv.filter (fun q => !(q.1 == i1) && !(q.1 + 1 == i1 && q.2.category == 2)) = lv') (k : KJ l G D R nL ce sl ws lv' (pc + 1) st) : KJ l G D R nL ce sl ws lv pc (.int x :: st) := fun H locs ls hP hD hS hl => lv_istore_n hC.ex hC.cd hdg hi hl hn he (fun ls' hl' => k H locs ls' hP hD hS hl')
theorem k_istore (hC : CX G D cc own nL) (pc : Nat) (i1 : Nat) {x : Int32} (lv' : List (Nat × Value)) (hdg : decode cc pc = .ok (.istore i1, 2)) (hn : i1 < nL) (he : (i1, Value.int x) :: lv.filter (fun q => !(q.1 == i1) && !(q.1 + 1 == i1 && q.2.category == 2)) = lv') (k : KJ l G D R nL ce sl ws lv' (pc + 2) st) : KJ l G D R nL ce sl ws lv pc (.int x :: st) := fun H locs ls hP hD hS hl => lv_istore hC.ex hC.cd hdg hl hn he (fun ls' hl' => k H locs ls' hP hD hS hl')
theorem k_astore_n (hC : CX G D cc own nL) (pc : Nat) {k0 : Fin 4} (i1 : Nat) {x : Nat} (lv' : List (Nat × Value)) (hdg : decode cc pc = .ok (.astore_n k0, 1)) (hi : (k0 : Nat) = i1) (hn : i1 < nL) (he : (i1, Value.ref x) :: lv.filter (fun q => !(q.1 == i1) && !(q.1 + 1 == i1 && q.2.category == 2)) = lv') (k : KJ l G D R nL ce sl ws lv' (pc + 1) st) : KJ l G D R nL ce sl ws lv pc (.ref x :: st) := fun H locs ls hP hD hS hl => lv_astore_n hC.ex hC.cd hdg hi hl hn he (fun ls' hl' => k H locs ls' hP hD hS hl')
theorem k_astore (hC : CX G D cc own nL) (pc : Nat) (i1 : Nat) {x : Nat} (lv' : List (Nat × Value)) (hdg : decode cc pc = .ok (.astore i1, 2)) (hn : i1 < nL) (he : (i1, Value.ref x) :: lv.filter (fun q => !(q.1 == i1) && !(q.1 + 1 == i1 && q.2.category == 2)) = lv') (k : KJ l G D R nL ce sl ws lv' (pc + 2) st) : KJ l G D R nL ce sl ws lv pc (.ref x :: st) := fun H locs ls hP hD hS hl => lv_astore hC.ex hC.cd hdg hl hn he (fun ls' hl' => k H locs ls' hP hD hS hl')
theorem k_lstore_n (hC : CX G D cc own nL) (pc : Nat) {k0 : Fin 4} (i1 : Nat) {x : Int64} (lv' : List (Nat × Value)) (hdg : decode cc pc = .ok (.lstore_n k0, 1)) (hi : (k0 : Nat) = i1) (hn : i1 + 1 < nL) (he : (i1, Value.long x) :: lv.filter (fun q => !(q.1 == i1) && (!(q.1 == i1 + 1) && !(q.1 + 1 == i1 && q.2.category == 2))) = lv') (k : KJ l G D R nL ce sl ws lv' (pc + 1) st) : KJ l G D R nL ce sl ws lv pc (.long x :: st) := fun H locs ls hP hD hS hl => lv_lstore_n hC.ex hC.cd hdg hi hl hn he (fun ls' hl' => k H locs ls' hP hD hS hl')
theorem k_lstore (hC : CX G D cc own nL) (pc : Nat) (i1 : Nat) {x : Int64} (lv' : List (Nat × Value)) (hdg : decode cc pc = .ok (.lstore i1, 2)) (hn : i1 + 1 < nL) (he : (i1, Value.long x) :: lv.filter (fun q => !(q.1 == i1) && (!(q.1 == i1 + 1) && !(q.1 + 1 == i1 && q.2.category == 2))) = lv') (k : KJ l G D R nL ce sl ws lv' (pc + 2) st) : KJ l G D R nL ce sl ws lv pc (.long x :: st) := fun H locs ls hP hD hS hl => lv_lstore hC.ex hC.cd hdg hl hn he (fun ls' hl' => k H locs ls' hP hD hS hl')
theorem k_dstore_n (hC : CX G D cc own nL) (pc : Nat) {k0 : Fin 4} (i1 : Nat) {x : UInt64} (lv' : List (Nat × Value)) (hdg : decode cc pc = .ok (.dstore_n k0, 1)) (hi : (k0 : Nat) = i1) (hn : i1 + 1 < nL) (he : (i1, Value.double x) :: lv.filter (fun q => !(q.1 == i1) && (!(q.1 == i1 + 1) && !(q.1 + 1 == i1 && q.2.category == 2))) = lv') (k : KJ l G D R nL ce sl ws lv' (pc + 1) st) : KJ l G D R nL ce sl ws lv pc (.double x :: st) := fun H locs ls hP hD hS hl => lv_dstore_n hC.ex hC.cd hdg hi hl hn he (fun ls' hl' => k H locs ls' hP hD hS hl')
theorem k_dstore (hC : CX G D cc own nL) (pc : Nat) (i1 : Nat) {x : UInt64} (lv' : List (Nat × Value)) (hdg : decode cc pc = .ok (.dstore i1, 2)) (hn : i1 + 1 < nL) (he : (i1, Value.double x) :: lv.filter (fun q => !(q.1 == i1) && (!(q.1 == i1 + 1) && !(q.1 + 1 == i1 && q.2.category == 2))) = lv') (k : KJ l G D R nL ce sl ws lv' (pc + 2) st) : KJ l G D R nL ce sl ws lv pc (.double x :: st) := fun H locs ls hP hD hS hl => lv_dstore hC.ex hC.cd hdg hl hn he (fun ls' hl' => k H locs ls' hP hD hS hl')
theorem k_iinc (hC : CX G D cc own nL) (pc : Nat) {i1 : Nat} {n : Int} (k0 : Nat) {x : Int32} (v : Int32) (lv' : List (Nat × Value)) (hdg : decode cc pc = .ok (.iinc i1 n, 3)) (hk : lv[k0]? = some (i1, .int x)) (hv : x + Int32.ofInt n = v) (hn : i1 < nL) (he : (i1, Value.int v) :: lv.filter (fun q => !(q.1 == i1) && !(q.1 + 1 == i1 && q.2.category == 2)) = lv') (k : KJ l G D R nL ce sl ws lv' (pc + 3) st) : KJ l G D R nL ce sl ws lv pc st := fun H locs ls hP hD hS hl => lv_iinc hC.ex hC.cd hdg hl hk hv hn he (fun ls' hl' => k H locs ls' hP hD hS hl')
theorem k_iadd (hC : CX G D cc own nL) (pc : Nat) {x y : Int32} (hdg : decode cc pc = .ok (.iadd, 1)) (k : KJ l G D R nL ce sl ws lv (pc + 1) (.int (x + y) :: st)) : KJ l G D R nL ce sl ws lv pc (.int y :: .int x :: st) := fun H locs ls hP hD hS hl => lv_iadd hC.ex hC.cd hdg (k H locs ls hP hD hS hl)
theorem k_isub (hC : CX G D cc own nL) (pc : Nat) {x y : Int32} (hdg : decode cc pc = .ok (.isub, 1)) (k : KJ l G D R nL ce sl ws lv (pc + 1) (.int (x - y) :: st)) : KJ l G D R nL ce sl ws lv pc (.int y :: .int x :: st) := fun H locs ls hP hD hS hl => lv_isub hC.ex hC.cd hdg (k H locs ls hP hD hS hl)
theorem k_imul (hC : CX G D cc own nL) (pc : Nat) {x y : Int32} (hdg : decode cc pc = .ok (.imul, 1)) (k : KJ l G D R nL ce sl ws lv (pc + 1) (.int (x * y) :: st)) : KJ l G D R nL ce sl ws lv pc (.int y :: .int x :: st) := fun H locs ls hP hD hS hl => lv_imul hC.ex hC.cd hdg (k H locs ls hP hD hS hl)
theorem k_iand (hC : CX G D cc own nL) (pc : Nat) {x y : Int32} (hdg : decode cc pc = .ok (.iand, 1)) (k : KJ l G D R nL ce sl ws lv (pc + 1) (.int (x &&& y) :: st)) : KJ l G D R nL ce sl ws lv pc (.int y :: .int x :: st) := fun H locs ls hP hD hS hl => lv_iand hC.ex hC.cd hdg (k H locs ls hP hD hS hl)
theorem k_idiv (hC : CX G D cc own nL) (pc : Nat) {x y : Int32} (hdg : decode cc pc = .ok (.idiv, 1)) (hne : ¬ y = 0) (k : KJ l G D R nL ce sl ws lv (pc + 1) (.int (x / y) :: st)) : KJ l G D R nL ce sl ws lv pc (.int y :: .int x :: st) := fun H locs ls hP hD hS hl => lv_idiv hC.ex hC.cd hdg hne (k H locs ls hP hD hS hl)
theorem k_irem (hC : CX G D cc own nL) (pc : Nat) {x y : Int32} (hdg : decode cc pc = .ok (.irem, 1)) (hne : ¬ y = 0) (k : KJ l G D R nL ce sl ws lv (pc + 1) (.int (x - x / y * y) :: st)) : KJ l G D R nL ce sl ws lv pc (.int y :: .int x :: st) := fun H locs ls hP hD hS hl => lv_irem hC.ex hC.cd hdg hne (k H locs ls hP hD hS hl)
theorem k_ladd (hC : CX G D cc own nL) (pc : Nat) {x y : Int64} (hdg : decode cc pc = .ok (.ladd, 1)) (k : KJ l G D R nL ce sl ws lv (pc + 1) (.long (x + y) :: st)) : KJ l G D R nL ce sl ws lv pc (.long y :: .long x :: st) := fun H locs ls hP hD hS hl => lv_ladd hC.ex hC.cd hdg (k H locs ls hP hD hS hl)
theorem k_lmul (hC : CX G D cc own nL) (pc : Nat) {x y : Int64} (hdg : decode cc pc = .ok (.lmul, 1)) (k : KJ l G D R nL ce sl ws lv (pc + 1) (.long (x * y) :: st)) : KJ l G D R nL ce sl ws lv pc (.long y :: .long x :: st) := fun H locs ls hP hD hS hl => lv_lmul hC.ex hC.cd hdg (k H locs ls hP hD hS hl)
theorem k_lcmp (hC : CX G D cc own nL) (pc : Nat) {x y : Int64} (hdg : decode cc pc = .ok (.lcmp, 1)) (k : KJ l G D R nL ce sl ws lv (pc + 1) (.int (lg_cmp x y) :: st)) : KJ l G D R nL ce sl ws lv pc (.long y :: .long x :: st) := fun H locs ls hP hD hS hl => W.lcmp hC.ex hC.cd hdg (k H locs ls hP hD hS hl)
theorem k_i2l (hC : CX G D cc own nL) (pc : Nat) {x : Int32} (hdg : decode cc pc = .ok (.i2l, 1)) (v : Int64) (hv : x.toInt64 = v) (k : KJ l G D R nL ce sl ws lv (pc + 1) (.long v :: st)) : KJ l G D R nL ce sl ws lv pc (.int x :: st) := fun H locs ls hP hD hS hl => lv_i2l hC.ex hC.cd hdg hv (k H locs ls hP hD hS hl)
theorem k_i2d (hC : CX G D cc own nL) (pc : Nat) {x : Int32} (hdg : decode cc pc = .ok (.i2d, 1)) (k : KJ l G D R nL ce sl ws lv (pc + 1) (.double (FP.i2d x) :: st)) : KJ l G D R nL ce sl ws lv pc (.int x :: st) := fun H locs ls hP hD hS hl => lv_i2d hC.ex hC.cd hdg (k H locs ls hP hD hS hl)
theorem k_dcmp (hC : CX G D cc own nL) (pc : Nat) {x y : UInt64} {op : CmpOp} (hdg : decode cc pc = .ok (.dcmp op, 1)) (k : KJ l G D R nL ce sl ws lv (pc + 1) (.int (Op.cmpValue (FP.dcmp x y) op) :: st)) : KJ l G D R nL ce sl ws lv pc (.double y :: .double x :: st) := fun H locs ls hP hD hS hl => lv_dcmp hC.ex hC.cd hdg (k H locs ls hP hD hS hl)
theorem k_ddiv (hC : CX G D cc own nL) (pc : Nat) {x y : UInt64} (hdg : decode cc pc = .ok (.ddiv, 1)) (hne : vf_n64 (FP.ddiv x y)) (k : KJ l G D R nL ce sl ws lv (pc + 1) (.double (FP.ddiv x y) :: st)) : KJ l G D R nL ce sl ws lv pc (.double y :: .double x :: st) := fun H locs ls hP hD hS hl => lv_ddiv hC.ex hC.cd hdg hne (k H locs ls hP hD hS hl)
theorem k_dconst0 (hC : CX G D cc own nL) (pc : Nat) (hdg : decode cc pc = .ok (.dconst 0, 1)) (k : KJ l G D R nL ce sl ws lv (pc + 1) (.double FP.dconst0 :: st)) : KJ l G D R nL ce sl ws lv pc (st) := fun H locs ls hP hD hS hl => lv_dconst0 hC.ex hC.cd hdg (k H locs ls hP hD hS hl)
theorem k_dup (hC : CX G D cc own nL) (pc : Nat) {va : Value} (hdg : decode cc pc = .ok (.dup, 1)) (hva : va.category = 1) (k : KJ l G D R nL ce sl ws lv (pc + 1) (va :: va :: st)) : KJ l G D R nL ce sl ws lv pc (va :: st) := fun H locs ls hP hD hS hl => lv_dup hC.ex hC.cd hdg hva (k H locs ls hP hD hS hl)
theorem k_pop (hC : CX G D cc own nL) (pc : Nat) {va : Value} (hdg : decode cc pc = .ok (.pop, 1)) (hva : va.category = 1) (k : KJ l G D R nL ce sl ws lv (pc + 1) (st)) : KJ l G D R nL ce sl ws lv pc (va :: st) := fun H locs ls hP hD hS hl => lv_pop hC.ex hC.cd hdg hva (k H locs ls hP hD hS hl)
theorem k_dup2 (hC : CX G D cc own nL) (pc : Nat) {va vb : Value} (hdg : decode cc pc = .ok (.dup2, 1)) (hva : va.category = 1) (hvb : vb.category = 1) (k : KJ l G D R nL ce sl ws lv (pc + 1) (va :: vb :: va :: vb :: st)) : KJ l G D R nL ce sl ws lv pc (va :: vb :: st) := fun H locs ls hP hD hS hl => lv_dup2_11 hC.ex hC.cd hdg hva hvb (k H locs ls hP hD hS hl)
theorem k_ldc (hC : CX G D cc own nL) (pc : Nat) {ix : Nat} (v : Int32) (hdg : decode cc pc = .ok (.ldc ix, 2)) (hw : Cond.constant own ix v ∈ wsL_law) (k : KJ l G D R nL ce sl ws lv (pc + 2) (.int v :: st)) : KJ l G D R nL ce sl ws lv pc st := fun H locs ls hP hD hS hl => lv_ldc hC.ex hC.cd hC.on (hC.wd _ hw) hdg (k H locs ls hP hD hS hl)
theorem k_ldc2 (hC : CX G D cc own nL) (pc : Nat) {ix : Nat} (v : Int64) (hdg : decode cc pc = .ok (.ldc2_w ix, 3)) (hw : Cond.constantLong own ix v ∈ wsL_law) (k : KJ l G D R nL ce sl ws lv (pc + 3) (.long v :: st)) : KJ l G D R nL ce sl ws lv pc st := fun H locs ls hP hD hS hl => lv_ldc2 hC.ex hC.cd hC.on (hC.wd _ hw) hdg (k H locs ls hP hD hS hl)
theorem k_goto (hC : CX G D cc own nL) (pc : Nat) {off : Int} (tgt : Nat) (hdg : decode cc pc = .ok (.goto off, 3)) (ht : (pc : Int) + off = (tgt : Int)) (k : KJ l G D R nL ce sl ws lv tgt st) : KJ l G D R nL ce sl ws lv pc st := fun H locs ls hP hD hS hl => lv_goto hC.ex hC.cd hdg ht (k H locs ls hP hD hS hl)
theorem k_if_eq (hC : CX G D cc own nL) (pc : Nat) {x : Int32} {off : Int} (tgt : Nat) (hdg : decode cc pc = .ok (.ifCond .eq off, 3)) (ht : (pc : Int) + off = (tgt : Int)) (kt : x = 0 → KJ l G D R nL ce sl ws lv tgt st) (kf : ¬ x = 0 → KJ l G D R nL ce sl ws lv (pc + 3) st) : KJ l G D R nL ce sl ws lv pc (.int x :: st) := fun H locs ls hP hD hS hl => lv_if_eq hC.ex hC.cd hdg ht (fun h => kt h H locs ls hP hD hS hl) (fun h => kf h H locs ls hP hD hS hl)
theorem k_icmp_eq (hC : CX G D cc own nL) (pc : Nat) {x y : Int32} {off : Int} (tgt : Nat) (hdg : decode cc pc = .ok (.if_icmp .eq off, 3)) (ht : (pc : Int) + off = (tgt : Int)) (kt : x = y → KJ l G D R nL ce sl ws lv tgt st) (kf : ¬ x = y → KJ l G D R nL ce sl ws lv (pc + 3) st) : KJ l G D R nL ce sl ws lv pc (.int y :: .int x :: st) := fun H locs ls hP hD hS hl => lv_icmp_eq hC.ex hC.cd hdg ht (fun h => kt h H locs ls hP hD hS hl) (fun h => kf h H locs ls hP hD hS hl)
theorem k_if_ne (hC : CX G D cc own nL) (pc : Nat) {x : Int32} {off : Int} (tgt : Nat) (hdg : decode cc pc = .ok (.ifCond .ne off, 3)) (ht : (pc : Int) + off = (tgt : Int)) (kt : ¬ x = 0 → KJ l G D R nL ce sl ws lv tgt st) (kf : x = 0 → KJ l G D R nL ce sl ws lv (pc + 3) st) : KJ l G D R nL ce sl ws lv pc (.int x :: st) := fun H locs ls hP hD hS hl => lv_if_ne hC.ex hC.cd hdg ht (fun h => kt h H locs ls hP hD hS hl) (fun h => kf h H locs ls hP hD hS hl)
theorem k_icmp_ne (hC : CX G D cc own nL) (pc : Nat) {x y : Int32} {off : Int} (tgt : Nat) (hdg : decode cc pc = .ok (.if_icmp .ne off, 3)) (ht : (pc : Int) + off = (tgt : Int)) (kt : ¬ x = y → KJ l G D R nL ce sl ws lv tgt st) (kf : x = y → KJ l G D R nL ce sl ws lv (pc + 3) st) : KJ l G D R nL ce sl ws lv pc (.int y :: .int x :: st) := fun H locs ls hP hD hS hl => lv_icmp_ne hC.ex hC.cd hdg ht (fun h => kt h H locs ls hP hD hS hl) (fun h => kf h H locs ls hP hD hS hl)
theorem k_if_lt (hC : CX G D cc own nL) (pc : Nat) {x : Int32} {off : Int} (tgt : Nat) (hdg : decode cc pc = .ok (.ifCond .lt off, 3)) (ht : (pc : Int) + off = (tgt : Int)) (kt : x < 0 → KJ l G D R nL ce sl ws lv tgt st) (kf : ¬ x < 0 → KJ l G D R nL ce sl ws lv (pc + 3) st) : KJ l G D R nL ce sl ws lv pc (.int x :: st) := fun H locs ls hP hD hS hl => lv_if_lt hC.ex hC.cd hdg ht (fun h => kt h H locs ls hP hD hS hl) (fun h => kf h H locs ls hP hD hS hl)
theorem k_icmp_lt (hC : CX G D cc own nL) (pc : Nat) {x y : Int32} {off : Int} (tgt : Nat) (hdg : decode cc pc = .ok (.if_icmp .lt off, 3)) (ht : (pc : Int) + off = (tgt : Int)) (kt : x < y → KJ l G D R nL ce sl ws lv tgt st) (kf : ¬ x < y → KJ l G D R nL ce sl ws lv (pc + 3) st) : KJ l G D R nL ce sl ws lv pc (.int y :: .int x :: st) := fun H locs ls hP hD hS hl => lv_icmp_lt hC.ex hC.cd hdg ht (fun h => kt h H locs ls hP hD hS hl) (fun h => kf h H locs ls hP hD hS hl)
theorem k_if_ge (hC : CX G D cc own nL) (pc : Nat) {x : Int32} {off : Int} (tgt : Nat) (hdg : decode cc pc = .ok (.ifCond .ge off, 3)) (ht : (pc : Int) + off = (tgt : Int)) (kt : 0 ≤ x → KJ l G D R nL ce sl ws lv tgt st) (kf : ¬ 0 ≤ x → KJ l G D R nL ce sl ws lv (pc + 3) st) : KJ l G D R nL ce sl ws lv pc (.int x :: st) := fun H locs ls hP hD hS hl => lv_if_ge hC.ex hC.cd hdg ht (fun h => kt h H locs ls hP hD hS hl) (fun h => kf h H locs ls hP hD hS hl)
theorem k_icmp_ge (hC : CX G D cc own nL) (pc : Nat) {x y : Int32} {off : Int} (tgt : Nat) (hdg : decode cc pc = .ok (.if_icmp .ge off, 3)) (ht : (pc : Int) + off = (tgt : Int)) (kt : y ≤ x → KJ l G D R nL ce sl ws lv tgt st) (kf : ¬ y ≤ x → KJ l G D R nL ce sl ws lv (pc + 3) st) : KJ l G D R nL ce sl ws lv pc (.int y :: .int x :: st) := fun H locs ls hP hD hS hl => lv_icmp_ge hC.ex hC.cd hdg ht (fun h => kt h H locs ls hP hD hS hl) (fun h => kf h H locs ls hP hD hS hl)
theorem k_if_gt (hC : CX G D cc own nL) (pc : Nat) {x : Int32} {off : Int} (tgt : Nat) (hdg : decode cc pc = .ok (.ifCond .gt off, 3)) (ht : (pc : Int) + off = (tgt : Int)) (kt : 0 < x → KJ l G D R nL ce sl ws lv tgt st) (kf : ¬ 0 < x → KJ l G D R nL ce sl ws lv (pc + 3) st) : KJ l G D R nL ce sl ws lv pc (.int x :: st) := fun H locs ls hP hD hS hl => lv_if_gt hC.ex hC.cd hdg ht (fun h => kt h H locs ls hP hD hS hl) (fun h => kf h H locs ls hP hD hS hl)
theorem k_icmp_gt (hC : CX G D cc own nL) (pc : Nat) {x y : Int32} {off : Int} (tgt : Nat) (hdg : decode cc pc = .ok (.if_icmp .gt off, 3)) (ht : (pc : Int) + off = (tgt : Int)) (kt : y < x → KJ l G D R nL ce sl ws lv tgt st) (kf : ¬ y < x → KJ l G D R nL ce sl ws lv (pc + 3) st) : KJ l G D R nL ce sl ws lv pc (.int y :: .int x :: st) := fun H locs ls hP hD hS hl => lv_icmp_gt hC.ex hC.cd hdg ht (fun h => kt h H locs ls hP hD hS hl) (fun h => kf h H locs ls hP hD hS hl)
theorem k_if_le (hC : CX G D cc own nL) (pc : Nat) {x : Int32} {off : Int} (tgt : Nat) (hdg : decode cc pc = .ok (.ifCond .le off, 3)) (ht : (pc : Int) + off = (tgt : Int)) (kt : x ≤ 0 → KJ l G D R nL ce sl ws lv tgt st) (kf : ¬ x ≤ 0 → KJ l G D R nL ce sl ws lv (pc + 3) st) : KJ l G D R nL ce sl ws lv pc (.int x :: st) := fun H locs ls hP hD hS hl => lv_if_le hC.ex hC.cd hdg ht (fun h => kt h H locs ls hP hD hS hl) (fun h => kf h H locs ls hP hD hS hl)
theorem k_icmp_le (hC : CX G D cc own nL) (pc : Nat) {x y : Int32} {off : Int} (tgt : Nat) (hdg : decode cc pc = .ok (.if_icmp .le off, 3)) (ht : (pc : Int) + off = (tgt : Int)) (kt : x ≤ y → KJ l G D R nL ce sl ws lv tgt st) (kf : ¬ x ≤ y → KJ l G D R nL ce sl ws lv (pc + 3) st) : KJ l G D R nL ce sl ws lv pc (.int y :: .int x :: st) := fun H locs ls hP hD hS hl => lv_icmp_le hC.ex hC.cd hdg ht (fun h => kt h H locs ls hP hD hS hl) (fun h => kf h H locs ls hP hD hS hl)
theorem k_tableIn (hC : CX G D cc own nL) (pc : Nat) {dflt lo hi : Int} {offs : Array Int} {len : Nat} {x : Int32} {off : Int} (tgt : Nat) (hdg : decode cc pc = .ok (.tableswitch dflt lo hi offs, len)) (h1 : ¬ x.toInt < lo) (h2 : ¬ hi < x.toInt) (ho : offs[(x.toInt - lo).toNat]? = some off) (ht : (pc : Int) + off = (tgt : Int)) (k : KJ l G D R nL ce sl ws lv tgt st) : KJ l G D R nL ce sl ws lv pc (.int x :: st) := fun H locs ls hP hD hS hl => lv_tableIn hC.ex hC.cd hdg h1 h2 ho ht (k H locs ls hP hD hS hl)
theorem k_tableOut (hC : CX G D cc own nL) (pc : Nat) {dflt lo hi : Int} {offs : Array Int} {len : Nat} {x : Int32} (tgt : Nat) (hdg : decode cc pc = .ok (.tableswitch dflt lo hi offs, len)) (h : x.toInt < lo ∨ hi < x.toInt) (ht : (pc : Int) + dflt = (tgt : Int)) (k : KJ l G D R nL ce sl ws lv tgt st) : KJ l G D R nL ce sl ws lv pc (.int x :: st) := fun H locs ls hP hD hS hl => lv_tableOut hC.ex hC.cd hdg h ht (k H locs ls hP hD hS hl)
/-- fields -/
theorem k_getf (hC : CX G D cc own nL) (pc : Nat) {ix ci N a : Nat} {C : String} {T : u_T} (q0 : Nat) {fs : List Value} (k : Nat) {v : Value} (hdg : decode cc pc = .ok (.getfield ix, 3)) (he : ws[q0]? = some (a, .inr (ci, fs))) (hc : vwCl[ci]? = some (C, T, N)) (hin : ∀ w ∈ u_ws C T N, w ∈ wsL_law) (hk : k < N) (hw : Cond.fieldLink own ix (T k).1 (T k).2.1 (T k).2.2.1 ∈ wsL_law) (hv : fs[k]? = some v) (kk : KJ l G D R nL ce sl ws lv (pc + 3) (v :: st)) : KJ l G D R nL ce sl ws lv pc (.ref a :: st) := fun H locs ls hP hD hS hl => va_get hC.ex hC.cd hC.wd hin hC.on hC.kk hP q0 he hc k hk (hC.wd _ hw) (fun _ h => h) hv hdg (kk H locs ls hP hD hS hl)
theorem k_getfN (hC : CX G D cc own nL) (pc : Nat) {ix ci N a : Nat} {C host : String} {T : u_T} (q0 : Nat) {fs : List Value} (k : Nat) {v : Value} (hdg : decode cc pc = .ok (.getfield ix, 3)) (he : ws[q0]? = some (a, .inr (ci, fs))) (hc : vwCl[ci]? = some (C, T, N)) (hin : ∀ w ∈ u_ws C T N, w ∈ wsL_law) (hk : k < N) (hw : va_Nw (Cond.fieldLinkNest own ix (T k).1 (T k).2.1 (T k).2.2.1 host) (ks G)) (hv : fs[k]? = some v) (kk : KJ l G D R nL ce sl ws lv (pc + 3) (v :: st)) : KJ l G D R nL ce sl ws lv pc (.ref a :: st) := fun H locs ls hP hD hS hl => va_getN hC.ex hC.cd hC.wd hin hC.on hC.kk hP q0 he hc k hk (va_Nw.use rfl hw) (fun _ h => h) hv hdg (kk H locs ls hP hD hS hl)
theorem k_putf (hC : CX G D cc own nL) (pc : Nat) {ix ci N a : Nat} {C : String} {T : u_T} {ty0 : Nat → FieldType} (q0 : Nat) {fs : List Value} (k : Nat) {v : Value} (ws' : va_W) (hdg : decode cc pc = .ok (.putfield ix, 3)) (he : ws[q0]? = some (a, .inr (ci, fs))) (hc : vwCl[ci]? = some (C, T, N)) (hin : ∀ w ∈ u_ws C T N, w ∈ wsL_law) (hty : ∀ k, k < N → parseFieldDescriptor (T k).2.2.1 = some (ty0 k)) (hnm : ∀ a, a < N → ∀ b, b < N → a ≠ b → (T a).2.1 ≠ (T b).2.1) (hk : k < N) (hw : Cond.fieldLink own ix (T k).1 (T k).2.1 (T k).2.2.1 ∈ wsL_law) (hfin : (T k).2.2.2 = false) (hn : narrow (ty0 k) v = v) (hfit : fits (ty0 k) v = true) (hl0 : k < fs.length) (hws : ws.set q0 (a, .inr (ci, fs.set k v)) = ws') (kk : KJ l G D R nL ce sl ws' lv (pc + 3) st) : KJ l G D R nL ce sl ws lv pc (v :: .ref a :: st) := fun H locs ls hP hD hS hl => va_put hC.ex hC.cd hC.wd hin ty0 hty hnm hC.on hC.kk hP hD hS q0 he hc k hk (hC.wd _ hw) (fun _ h => h) hfin (hty k hk) hn hfit hl0 hdg (fun H1 locs1 hP1 hD1 hS1 => kk H1 locs1 ls (hws ▸ hP1) (hws ▸ hD1) hS1 hl)
theorem k_putfN (hC : CX G D cc own nL) (pc : Nat) {ix ci N a : Nat} {C host : String} {T : u_T} {ty0 : Nat → FieldType} (q0 : Nat) {fs : List Value} (k : Nat) {v : Value} (ws' : va_W) (hdg : decode cc pc = .ok (.putfield ix, 3)) (he : ws[q0]? = some (a, .inr (ci, fs))) (hc : vwCl[ci]? = some (C, T, N)) (hin : ∀ w ∈ u_ws C T N, w ∈ wsL_law) (hty : ∀ k, k < N → parseFieldDescriptor (T k).2.2.1 = some (ty0 k)) (hnm : ∀ a, a < N → ∀ b, b < N → a ≠ b → (T a).2.1 ≠ (T b).2.1) (hk : k < N) (hw : va_Nw (Cond.fieldLinkNest own ix (T k).1 (T k).2.1 (T k).2.2.1 host) (ks G)) (hfin : (T k).2.2.2 = false) (hn : narrow (ty0 k) v = v) (hfit : fits (ty0 k) v = true) (hl0 : k < fs.length) (hws : ws.set q0 (a, .inr (ci, fs.set k v)) = ws') (kk : KJ l G D R nL ce sl ws' lv (pc + 3) st) : KJ l G D R nL ce sl ws lv pc (v :: .ref a :: st) := fun H locs ls hP hD hS hl => va_putN hC.ex hC.cd hC.wd hin ty0 hty hnm hC.on hC.kk hP hD hS q0 he hc k hk (va_Nw.use rfl hw) (fun _ h => h) hfin (hty k hk) hn hfit hl0 hdg (fun H1 locs1 hP1 hD1 hS1 => kk H1 locs1 ls (hws ▸ hP1) (hws ▸ hD1) hS1 hl)
theorem k_putfF (hC : CX G D cc own nL) (pc : Nat) {ix ci N a : Nat} {C : String} {T : u_T} {ty0 : Nat → FieldType} (q0 : Nat) {fs : List Value} (k : Nat) {v : Value} (ws' : va_W) (hdg : decode cc pc = .ok (.putfield ix, 3)) (he : ws[q0]? = some (a, .inr (ci, fs))) (hc : vwCl[ci]? = some (C, T, N)) (hin : ∀ w ∈ u_ws C T N, w ∈ wsL_law) (hty : ∀ k, k < N → parseFieldDescriptor (T k).2.2.1 = some (ty0 k)) (hnm : ∀ a, a < N → ∀ b, b < N → a ≠ b → (T a).2.1 ≠ (T b).2.1) (hk : k < N) (hw : Cond.fieldLink own ix (T k).1 (T k).2.1 (T k).2.2.1 ∈ wsL_law) (hfin : (T k).2.2.2 = true) (hinit : (kme G).name = "<init>") (hdecl : (T k).1 = own) (hn : narrow (ty0 k) v = v) (hfit : fits (ty0 k) v = true) (hl0 : k < fs.length) (hws : ws.set q0 (a, .inr (ci, fs.set k v)) = ws') (kk : KJ l G D R nL ce sl ws' lv (pc + 3) st) : KJ l G D R nL ce sl ws lv pc (v :: .ref a :: st) := fun H locs ls hP hD hS hl => va_putF hC.ex hC.cd hC.wd hin ty0 hty hnm hC.on hC.kk hP hD hS q0 he hc k hk (hC.wd _ hw) (fun _ h => h) hfin hinit hdecl (hty k hk) hn hfit hl0 hdg (fun H1 locs1 hP1 hD1 hS1 => kk H1 locs1 ls (hws ▸ hP1) (hws ▸ hD1) hS1 hl)
/-- arrays -/
theorem k_iald (hC : CX G D cc own nL) (pc : Nat) {a n : Nat} {f : Nat → Int32} {i : Int32} (q0 : Nat) (hdg : decode cc pc = .ok (.iaload, 1)) (ha : ws[q0]? = some (a, .inl (D.1 20, n, .inl f))) (hi : vp_in i n) (kk : KJ l G D R nL ce sl ws lv (pc + 1) (.int (f i.toNatClampNeg) :: st)) : KJ l G D R nL ce sl ws lv pc (.int i :: .ref a :: st) := fun H locs ls hP hD hS hl => va_iald hC.ex hC.cd hC.kk hP q0 0 ha rfl hi hdg (kk H locs ls hP hD hS hl)
theorem k_iast (hC : CX G D cc own nL) (pc : Nat) {a n : Nat} {f : Nat → Int32} {i x : Int32} (q0 : Nat) (ws' : va_W) (hdg : decode cc pc = .ok (.iastore, 1)) (ha : ws[q0]? = some (a, .inl (D.1 20, n, .inl f))) (hi : vp_in i n) (hws : ws.set q0 (a, .inl (D.1 20, n, .inl (upd f i.toNatClampNeg x))) = ws') (kk : KJ l G D R nL ce sl ws' lv (pc + 1) st) : KJ l G D R nL ce sl ws lv pc (.int x :: .int i :: .ref a :: st) := fun H locs ls hP hD hS hl => va_iast hC.ex hC.cd hC.kk hP hD hS q0 0 ha rfl hi hdg (fun H1 locs1 hP1 hD1 hS1 => kk H1 locs1 ls (hws ▸ hP1) (hws ▸ hD1) hS1 hl)
theorem k_alen (hC : CX G D cc own nL) (pc : Nat) {a : Nat} {x : vp_A} (q0 t0 : Nat) {cA : ClassId} {ty : FieldType} (v : Int32) (hdg : decode cc pc = .ok (.arraylength, 1)) (ha : ws[q0]? = some (a, .inl (cA, x))) (ht : (kty D)[t0]? = some (cA, ty)) (hv : Int32.ofNat x.1 = v) (kk : KJ l G D R nL ce sl ws lv (pc + 1) (.int v :: st)) : KJ l G D R nL ce sl ws lv pc (.ref a :: st) := fun H locs ls hP hD hS hl => va_alen hC.ex hC.cd hC.kk hP q0 t0 ha ht hv hdg (kk H locs ls hP hD hS hl)
/-- Math.max, Math.min, System.arraycopy -/
theorem k_max (hC : CX G D cc own nL) (pc : Nat) {ix : Nat} {x y : Int32} (hdg : decode cc pc = .ok (.invokestatic ix, 3)) (hw : Cond.methodLink own ix Lib.Math.max.name ∈ wsL_law) (hw2 : Cond.static Lib.Math.max.name ∈ wsL_law) (hw3 : Cond.initialized "java/lang/Math" ∈ wsL_law) (hw4 : Cond.code Lib.Math.max.name Lib.Math.max.code 2 (some .int) ∈ wsL_law) (hR : 1 ≤ R.frames ∧ (st.map fun v => v.category).sum + 13 ≤ R.locals ∧ ce ≤ R.cells ∧ sl ≤ R.slots) (kk : KJ l G D R nL ce sl ws lv (pc + 3) (.int (if x < y then y else x) :: st)) : KJ l G D R nL ce sl ws lv pc (.int y :: .int x :: st) := fun H locs ls hP hD hS hl => va_mmax hC.ex hC.cd (hC.ml.trans hl.1.symm) hC.on (hC.wd _ hw) (hC.wd _ hw2) (hC.wd _ hw3) (hC.wd _ hw4) hR.1 hR.2.1 hR.2.2.1 hR.2.2.2 hdg (kk H locs ls hP hD hS hl)
theorem k_min (hC : CX G D cc own nL) (pc : Nat) {ix : Nat} {x y : Int32} (hdg : decode cc pc = .ok (.invokestatic ix, 3)) (hw : Cond.methodLink own ix Lib.Math.min.name ∈ wsL_law) (hw2 : Cond.static Lib.Math.min.name ∈ wsL_law) (hw3 : Cond.initialized "java/lang/Math" ∈ wsL_law) (hw4 : Cond.code Lib.Math.min.name Lib.Math.min.code 2 (some .int) ∈ wsL_law) (hR : 1 ≤ R.frames ∧ (st.map fun v => v.category).sum + 13 ≤ R.locals ∧ ce ≤ R.cells ∧ sl ≤ R.slots) (kk : KJ l G D R nL ce sl ws lv (pc + 3) (.int (if y < x then y else x) :: st)) : KJ l G D R nL ce sl ws lv pc (.int y :: .int x :: st) := fun H locs ls hP hD hS hl => va_mmin hC.ex hC.cd (hC.ml.trans hl.1.symm) hC.on (hC.wd _ hw) (hC.wd _ hw2) (hC.wd _ hw3) (hC.wd _ hw4) hR.1 hR.2.1 hR.2.2.1 hR.2.2.2 hdg (kk H locs ls hP hD hS hl)
end KS

/-! CONTRACTS: from a world w0 (a list of cells) to a world w1 u, with an answer v of which post v u holds -/
def MPre (D : va_G) (w0 : va_W) (av : List Value) (sz : Nat) : Array Value → State → Prop := va_Pc av (fun U => U.heap.size = sz ∧ va_P D vwCl w0 U.heap ∧ KT D U ∧ va_D (fun _ => True) w0)
def MPost {S : Type} (D : va_G) (w0 : va_W) (sz : Nat) (post : Option Value → S → Prop) (w1 : S → va_W) : Array Value → State → Outcome → State → Prop := fun _ st oc t => (∃ (v : Option Value) (u : S), oc = .returned v ∧ post v u ∧ va_P D vwCl (w1 u) t.heap ∧ va_D (va_A w0 sz) (w1 u)) ∧ va_F (va_A w0 sz) st t
def MU {S : Type} (l : Launch) (y : MethodName) (cc : ByteArray) (maxL : Nat) (ret : Option FieldType) (fr lo : Nat) (D : va_G) (av : List Value) (w0 : va_W) (post : Option Value → S → Prop) (w1 : S → va_W) (mc ms : Nat) : Prop :=
  ∀ sz : Nat, Met l y (.code y cc maxL ret :: wsL_law) ({ frames := fr, cells := mc, slots := ms, locals := lo } : Room) (MPre D w0 av sz) (MPost D w0 sz post w1) mc ms (va_A w0 sz)
def EX {S : Type} (G : KX) (D : va_G) (y : MethodName) (w0 : va_W) (post : Option Value → S → Prop) (w1 : S → va_W) (ret : Option FieldType) (mc ms : Nat) : Prop :=
  kA G = va_A w0 (ks G).heap.size ∧ kQ G = MQ (kb G) (MPost D w0 (ks G).heap.size post w1) (ka G) (ks G) mc ms (va_A w0 (ks G).heap.size) ∧ (kme G).sig.returnType = ret ∧ (kme G).locks = false ∧ (kme G).name = y.name
theorem wsL_good : ∀ w ∈ wsL_law, goodWord w = true := fun w h => List.all_eq_true.mp (show wsL_law.all goodWord = true by decide +kernel) w h
theorem gAll {w0 : Cond} (h : w0 ∈ wsL_law) : GoodIn wsL_law (w0 :: wsL_law) := fun w hw => (List.mem_cons.mp hw).elim (fun e => by subst e; exact ⟨h, good_of_word (wsL_good _ h)⟩) (fun h2 => ⟨h2, good_of_word (wsL_good _ h2)⟩)
section MUs
variable {S : Type} {l : Launch} {y : MethodName} {cc : ByteArray} {maxL : Nat} {ret : Option FieldType} {fr lo : Nat} {D : va_G} {av : List Value} {w0 : va_W} {post : Option Value → S → Prop} {w1 : S → va_W} {mc ms : Nat}
theorem MPre.blind {sz : Nat} : FrameBlind (MPre D w0 av sz) := fun _ U _ _ q => ⟨q.1, q.2.1, q.2.2.1, KT.same (u := U) rfl q.2.2.2.1, q.2.2.2.2⟩
theorem MU.enter (hy : plainName y.cls = true) (lv0 : List (Nat × Value)) (hlv : lv_args 0 av = lv0) (hle : (lg_sl av).length ≤ maxL)
    (h : ∀ G : KX, CX G D cc y.cls maxL → EX G D y w0 post w1 ret mc ms → KJ l G D ({ frames := fr, cells := mc, slots := ms, locals := lo } : Room) maxL 0 0 w0 lv0 0 []) : MU l y cc maxL ret fr lo D av w0 post w1 mc ms := by
  intro sz
  refine Met.ofW (cc := cc) (maxL := maxL) (ret := ret) hy rfl ?_
  intro p e s m args below meth c s₁ B hml hv
  obtain ⟨rfl, hsz, hP, hK, hD0⟩ := hv
  subst hsz
  have hts := atoms_spec (ws := .code y cc maxL ret :: wsL_law) B.pre
  have hts : ∀ w ∈ wsL_law, w.before av.toArray s = true := fun w h => hts w (List.mem_cons_of_mem _ h)
  have hown : s.vm.findClass y.cls = some m.cls := findClass_of_methodNamed B.named
  have hl := lv_entry av (n := maxL) hle
  rw [hlv] at hl
  rw [lg_entry_eq]
  generalize (lg_sl av ++ List.replicate (maxL - (lg_sl av).length) Slot.unset).toArray = ls at hl ⊢
  exact h (p, e, s, m, av.toArray, below, meth, c, _, va_A w0 s.heap.size) ⟨B.exec, B.bytes, hml, hown, hts, hK, fun q hq => Or.inr hq⟩ ⟨rfl, rfl, B.returns, B.notSynchronized, (name_of_methodNamed B.named B.method).1⟩ s.heap [] ls hP hD0.self va_S.rf hl
variable {G : KX} {R : Room} {own : String} {nL ce sl : Nat} {ws : va_W} {lv : List (Nat × Value)} {st : List Value}
theorem EX.end_ (hE : EX G D y w0 post w1 ret mc ms) {v : Option Value} {u : S} (hp : post v u) {H : Heap} {locs : List Loc} (hP : va_P D vwCl ws H) (hD : va_D (kA G) ws) (hS : va_S (kA G) (ks G).heap H locs) (hw : w1 u = ws) : ∀ t : State, t.heap = H → (ks G).WarmedH t.vm → MPost D w0 (ks G).heap.size post w1 (ka G) (ks G) (.returned v) t := by
  intro t ht _
  have hA := hE.1
  subst hw
  refine ⟨⟨v, u, rfl, hp, by rw [ht]; exact hP, by rw [← hA]; exact hD⟩, by rw [← hA]; exact hS.F ht⟩
theorem EX.lc (hE : EX G D y w0 post w1 ret mc ms) {H : Heap} {locs : List Loc} (hS : va_S (kA G) (ks G).heap H locs) : ∀ q ∈ locs, va_A w0 (ks G).heap.size q.base := by
  rw [← hE.1]; exact hS.2.2
theorem k_iret {ty : FieldType} (hC : CX G D cc own nL) (hE : EX G D y w0 post w1 (some ty) mc ms) (pc : Nat) {v : Int32} (u : S) (hdg : decode cc pc = .ok (.ireturn, 1)) (hn : narrow ty (.int v) = .int v) (hp : post (some (.int v)) u) (hw : w1 u = ws) (hf : ce ≤ mc ∧ sl ≤ ms) : KJ l G D R nL ce sl ws lv pc [.int v] := fun H locs ls hP hD hS hl => by
  rw [hE.2.1]
  exact W.widen hf.1 hf.2 (W.zret hC.ex hC.cd hE.2.2.1 hn (hE.end_ hp hP hD hS hw) (hE.lc hS) hdg hE.2.2.2.1)
theorem k_lret (hC : CX G D cc own nL) (hE : EX G D y w0 post w1 (some .long) mc ms) (pc : Nat) {v : Int64} (u : S) (hdg : decode cc pc = .ok (.lreturn, 1)) (hp : post (some (.long v)) u) (hw : w1 u = ws) (hf : ce ≤ mc ∧ sl ≤ ms) : KJ l G D R nL ce sl ws lv pc [.long v] := fun H locs ls hP hD hS hl => by
  rw [hE.2.1]
  exact W.widen hf.1 hf.2 (W.lret hC.ex hC.cd hE.2.2.1 (hE.end_ hp hP hD hS hw) (hE.lc hS) hdg hE.2.2.2.1)
theorem k_dret (hC : CX G D cc own nL) (hE : EX G D y w0 post w1 (some .double) mc ms) (pc : Nat) {v : UInt64} (u : S) (hdg : decode cc pc = .ok (.dreturn, 1)) (hp : post (some (.double v)) u) (hw : w1 u = ws) (hf : ce ≤ mc ∧ sl ≤ ms) : KJ l G D R nL ce sl ws lv pc [.double v] := fun H locs ls hP hD hS hl => by
  rw [hE.2.1]
  exact W.widen hf.1 hf.2 (W.dret hC.ex hC.cd hE.2.2.1 (hE.end_ hp hP hD hS hw) (hE.lc hS) hdg hE.2.2.2.1)
theorem k_aret {rt : FieldType} (hC : CX G D cc own nL) (hE : EX G D y w0 post w1 (some rt) mc ms) (pc : Nat) {a : Nat} (u : S) (hdg : decode cc pc = .ok (.areturn, 1)) (hrt : (∃ n, rt = .object n) ∨ ∃ t, rt = .array t) (hp : post (some (.ref a)) u) (hw : w1 u = ws) (hf : ce ≤ mc ∧ sl ≤ ms) : KJ l G D R nL ce sl ws lv pc [.ref a] := fun H locs ls hP hD hS hl => by
  rw [hE.2.1]
  exact W.widen hf.1 hf.2 (W.aret hC.ex hC.cd hE.2.2.1 hrt (Or.inr ⟨a, rfl⟩) (hE.end_ hp hP hD hS hw) (hE.lc hS) hdg hE.2.2.2.1)
theorem k_vret (hC : CX G D cc own nL) (hE : EX G D y w0 post w1 none mc ms) (pc : Nat) (u : S) (hdg : decode cc pc = .ok (.return_, 1)) (hp : post none u) (hw : w1 u = ws) (hf : ce ≤ mc ∧ sl ≤ ms) : KJ l G D R nL ce sl ws lv pc [] := fun H locs ls hP hD hS hl => by
  rw [hE.2.1]
  exact W.widen hf.1 hf.2 (W.vret hC.ex hC.cd hE.2.2.1 (hE.end_ hp hP hD hS hw) (hE.lc hS) hdg hE.2.2.2.1)
end MUs
/-! CALLS -/
/-- cells are replaced by their places; what comes in addition goes to the end -/
def putL : va_W → List Nat → va_W → va_W
  | ws, [], w1 => ws ++ w1
  | ws, _ :: _, [] => ws
  | ws, i :: is, c :: w1 => putL (ws.set i c) is w1
theorem putL_get : ∀ (is : List Nat) (ws w1 : va_W) (k : Nat) (q : Nat × va_E), va_nd is = true → is.length ≤ w1.length → (∀ i ∈ is, i < ws.length) → (putL ws is w1)[k]? = some q →
    (∃ j : Nat, is[j]? = some k ∧ w1[j]? = some q) ∨ (k ∉ is ∧ k < ws.length ∧ ws[k]? = some q) ∨ (∃ j : Nat, k = ws.length + j ∧ w1[is.length + j]? = some q)
  | [], ws, w1, k, q, _, _, _, h => by
    simp only [putL] at h
    by_cases hk : k < ws.length
    · rw [List.getElem?_append_left hk] at h
      exact Or.inr (Or.inl ⟨List.not_mem_nil, hk, h⟩)
    · rw [List.getElem?_append_right (by omega)] at h
      exact Or.inr (Or.inr ⟨k - ws.length, by omega, by simpa using h⟩)
  | i :: is, ws, [], k, q, _, hl, _, h => by simp at hl
  | i :: is, ws, c :: w1, k, q, hn, hl, hi, h => by
    simp only [va_nd, Bool.and_eq_true, decide_eq_true_eq] at hn
    have hii : i < ws.length := hi i List.mem_cons_self
    simp only [putL] at h
    rcases putL_get is (ws.set i c) w1 k q hn.2 (by simpa using hl) (fun j hj => by rw [List.length_set]; exact hi j (List.mem_cons_of_mem _ hj)) h with ⟨j, h1, h2⟩ | ⟨h1, h2, h3⟩ | ⟨j, h1, h2⟩
    · exact Or.inl ⟨j + 1, by simpa using h1, by simpa using h2⟩
    · rw [List.length_set] at h2
      by_cases hk : k = i
      · subst hk
        rw [List.getElem?_set_self hii] at h3
        exact Or.inl ⟨0, rfl, h3⟩
      · rw [List.getElem?_set_ne (Ne.symm hk)] at h3
        exact Or.inr (Or.inl ⟨fun hm => (List.mem_cons.mp hm).elim hk h1, h2, h3⟩)
    · rw [List.length_set] at h1
      refine Or.inr (Or.inr ⟨j, h1, ?_⟩)
      rw [List.length_cons, Nat.add_right_comm]
      simpa using h2
theorem putL_ok {A : Nat → Prop} {D : va_G} {cl : List vw_C} {ws wc w1 : va_W} {H H1 : Heap} (hP : va_P D cl ws H) (hD : va_D A ws) (is : List Nat) (hn : va_nd is = true) (hC : is.map (fun i => ws[i]?) = wc.map some) (hl : is.length ≤ w1.length)
    (hk : ∀ q : Nat, q < H.size → ¬ va_A wc H.size q → H1[q]? = H[q]?) (hF : ∀ q, va_A wc H.size q → A q) (hP1 : va_P D cl w1 H1) (hD1 : va_D (va_A wc H.size) w1) : va_P D cl (putL ws is w1) H1 ∧ va_D A (putL ws is w1) := by
  have hat : ∀ (k : Nat) (q : Nat × va_E), wc[k]? = some q → ∃ i, is[k]? = some i ∧ ws[i]? = some q := by
    intro k q hq
    have h1 : (is.map (fun i => ws[i]?))[k]? = some (some q) := by rw [hC, List.getElem?_map, hq]; rfl
    rw [List.getElem?_map] at h1
    cases hi : is[k]? with
    | none => rw [hi] at h1; cases h1
    | some i => rw [hi] at h1; exact ⟨i, rfl, Option.some.inj h1⟩
  have hin : ∀ i ∈ is, i < ws.length := by
    intro i hi
    obtain ⟨k, hk1⟩ := List.getElem?_of_mem hi
    have h1 : (is.map (fun i => ws[i]?))[k]? = some (ws[i]?) := by rw [List.getElem?_map, hk1]; rfl
    rw [hC, List.getElem?_map] at h1
    cases hw : wc[k]? with
    | none => rw [hw] at h1; cases h1
    | some q =>
      rw [hw] at h1
      exact (List.getElem?_eq_some_iff.mp (Option.some.inj h1).symm).1
  have apart : ∀ (i : Nat) (q : Nat × va_E), i ∉ is → ws[i]? = some q → q.1 < H.size ∧ ¬ va_A wc H.size q.1 := by
    intro i q hi hq
    have hl := (hP i q hq).lt
    refine ⟨hl, fun h => ?_⟩
    rcases h with ⟨k2, e, h⟩ | h
    · obtain ⟨j, h3, h4⟩ := hat k2 (q.1, e) h
      have hij := hD.1 i j q (q.1, e) hq h4 rfl
      subst hij
      exact hi (List.mem_of_getElem? h3)
    · omega
  refine ⟨fun k q h => ?_, fun i j p q hi hj hpq => ?_, fun k q h => ?_⟩
  · rcases putL_get is ws w1 k q hn hl hin h with ⟨j, -, h2⟩ | ⟨h1, -, h3⟩ | ⟨j, -, h2⟩
    · exact hP1 j q h2
    · obtain ⟨g1, g2⟩ := apart k q h1 h3
      exact (hP k q h3).kept (hk q.1 g1 g2)
    · exact hP1 _ q h2
  · rcases putL_get is ws w1 i p hn hl hin hi with ⟨a, h1, h2⟩ | ⟨h1, h1', h2⟩ | ⟨a, h1, h2⟩ <;> rcases putL_get is ws w1 j q hn hl hin hj with ⟨b, k1, k2⟩ | ⟨k1, k1', k2⟩ | ⟨b, k1, k2⟩
    · have e := hD1.1 _ _ p q h2 k2 hpq
      subst e
      exact Option.some.inj (h1.symm.trans k1)
    · exact absurd (hpq ▸ hD1.2 _ p h2) (apart j q k1 k2).2
    · have e := hD1.1 _ _ p q h2 k2 hpq
      have := (List.getElem?_eq_some_iff.mp h1).1
      omega
    · exact absurd (hpq ▸ hD1.2 _ q k2) (hpq ▸ (apart i p h1 h2).2)
    · exact hD.1 i j p q h2 k2 hpq
    · exact absurd (hpq ▸ hD1.2 _ q k2) (hpq ▸ (apart i p h1 h2).2)
    · have e := hD1.1 _ _ p q h2 k2 hpq
      have := (List.getElem?_eq_some_iff.mp k1).1
      omega
    · exact absurd (hpq ▸ hD1.2 _ p h2) (apart j q k1 k2).2
    · have e := hD1.1 _ _ p q h2 k2 hpq
      omega
  · rcases putL_get is ws w1 k q hn hl hin h with ⟨j, -, h2⟩ | ⟨h1, -, h3⟩ | ⟨j, -, h2⟩
    · exact hF _ (hD1.2 j q h2)
    · exact hD.2 k q h3
    · exact hF _ (hD1.2 _ q h2)
section CG
variable {p : Program} {l : Launch} {e : Env} {R : Room} {s : State} {m : MethodId} {args : Array Value} {below : List Frame} {meth : Method} {c : Code} {H : Heap} {locs : List Loc} {cells slots mc ms : Nat} {Q : State → Prop} {g : JFrame} {rest : List Value} {free : Addr → Prop}
theorem va_callg {Qa : State → Outcome → State → Prop} (hr : va_Run p l e R s m args below meth c H locs cells slots mc ms g rest Qa free)
    (kk : ∀ (v : Option Value) (st₀ t : State) (H1 : Heap) (L : List Loc), st₀.heap = H → t.heap = H1 → (∀ q ∈ L, free q.base) → Qa st₀ (.returned v) t → W p l e R s m args below meth c H1 (locs ++ L) (cells + mc) (slots + ms) Q { g with pc := g.pc + 3, stack := v.toList ++ rest }) : W p l e R s m args below meth c H locs cells slots Q g := by
  intro T hT X
  obtain ⟨v, st₀, t, T', L, h0, X', hL, e1, e2, hq, stp⟩ := hr T hT X
  obtain ⟨t2, a1, b1⟩ := kk v st₀ t T'.heap L h0 e1.symm hL hq T' rfl X'
  exact ⟨t2, stp t2 a1, b1⟩
end CG
section CK
variable {S : Type} {l : Launch} {G : KX} {D : va_G} {R : Room} {cc : ByteArray} {own : String} {nL ce sl : Nat} {ws : va_W} {lv : List (Nat × Value)} {st : List Value}
variable {y : MethodName} {bytes : ByteArray} {maxL : Nat} {ret : Option FieldType} {fr lo : Nat} {w0 : va_W} {post : Option Value → S → Prop} {w1 : S → va_W} {mc ms n ix : Nat} {As : List Value}
theorem k_callK (hC : CX G D cc own nL) (pc : Nat) {a : Array Value} (is : List Nat) (hnd : va_nd is = true) (his : is.map (fun i => ws[i]?) = w0.map some) (ws' : S → va_W) (hlen : ∀ u, is.length ≤ (w1 u).length) (hws : ∀ u, putL ws is (w1 u) = ws' u)
    {H : Heap} {locs : List Loc} {ls : Array Slot} {st0 : List Value} (hP : va_P D vwCl ws H) (hD : va_D (kA G) ws) (hS : va_S (kA G) (ks G).heap H locs) (hl : lv_has ls nL lv)
    (hr : va_Run (kp G) l (ke G) R (ks G) (km G) (ka G) (kb G) (kme G) (kc G) H locs ce sl mc ms (F0 (km G) pc ls st0) st (MPost D w0 H.size post w1 a) (va_A w0 H.size))
    (kk : ∀ (v : Option Value) (u : S), post v u → KJ l G D R nL (ce + mc) (sl + ms) (ws' u) lv (pc + 3) (v.toList ++ st)) : W (kp G) l (ke G) R (ks G) (km G) (ka G) (kb G) (kme G) (kc G) H locs ce sl (kQ G) (F0 (km G) pc ls st0) := by
  refine va_callg hr (fun v st₀ t H1 L h0 h1 hL hq => ?_)
  obtain ⟨⟨v', u, hv, hp, hP1, hD1⟩, hz, hk⟩ := hq
  cases hv
  rw [h0] at hz hk
  rw [h1] at hP1 hz hk
  have hF : ∀ q, va_A w0 H.size q → kA G q := va_free hD hS hC.nw is his
  obtain ⟨hP2, hD2⟩ := putL_ok hP hD is hnd his (hlen u) hk hF hP1 hD1
  rw [hws u] at hP2 hD2
  refine kk v u hp H1 (locs ++ L) ls hP2 hD2 ⟨Nat.le_trans hS.1 hz, fun q h2 h3 => ?_, fun q hq => ?_⟩ hl
  · rw [hk q (Nat.lt_of_lt_of_le h2 hS.1) (fun z => h3 (hF q z))]
    exact hS.2.1 q h2 h3
  · rcases List.mem_append.mp hq with h | h
    · exact hS.2.2 q h
    · exact hF _ (hL q h)
theorem k_pre (hC : CX G D cc own nL) {av : List Value} (is : List Nat) (hnd : va_nd is = true) (his : is.map (fun i => ws[i]?) = w0.map some) {H : Heap} (hP : va_P D vwCl ws H) (hD : va_D (kA G) ws) : ∀ U : State, U.heap = H → (ks G).WarmedH U.vm → MPre D w0 av H.size av.toArray U := by
  intro U hU hW
  have hP0 : va_P D vwCl w0 H := by
    intro k q hq
    have h1 : (is.map (fun i => ws[i]?))[k]? = some (some q) := by rw [his, List.getElem?_map, hq]; rfl
    rw [List.getElem?_map] at h1
    cases hi : is[k]? with
    | none => rw [hi] at h1; cases h1
    | some i => rw [hi] at h1; exact hP i q (Option.some.inj h1)
  exact ⟨rfl, by rw [hU], by rw [hU]; exact hP0, hC.kt.warm hW, (hD.sub is hnd his).weaken (fun _ _ _ _ => trivial)⟩
theorem k_callV (hC : CX G D cc own nL) (pc : Nat) {b ci : Nat} {q : vw_C} {fs : List Value} (q0 : Nat) (is : List Nat) (ws' : S → va_W) (hM : MU l y bytes maxL ret fr lo D (.ref b :: As) w0 post w1 mc ms) (cw : CWV own ix y bytes maxL ret n) (hdg : decode cc pc = .ok (.invokevirtual ix, 3))
    (hR : fr + 1 ≤ R.frames ∧ 8 + (maxL + 11) + lo ≤ R.locals ∧ ce + mc ≤ R.cells ∧ sl + ms ≤ R.slots) (hn : As.length = n) (hcat : (st.map fun v => v.category).sum ≤ 8)
    (hq : ws[q0]? = some (b, .inr (ci, fs))) (hci : vwCl[ci]? = some q) (hqn : q.1 = y.cls) (hnd : va_nd is = true) (his : is.map (fun i => ws[i]?) = w0.map some) (hlen : ∀ u, is.length ≤ (w1 u).length) (hws : ∀ u, putL ws is (w1 u) = ws' u)
    (st0 : List Value) (hst : st0 = As.reverse ++ .ref b :: st) (kk : ∀ (v : Option Value) (u : S), post v u → KJ l G D R nL (ce + mc) (sl + ms) (ws' u) lv (pc + 3) (v.toList ++ st)) : KJ l G D R nL ce sl ws lv pc st0 := by
  subst hst
  intro H locs ls hP hD hS hl
  have hcw : CallW R (ks G) (ka G) own y.cls ix y bytes maxL ret (.code y bytes maxL ret :: wsL_law) ({ frames := fr, cells := mc, slots := ms, locals := lo } : Room) mc ms n := ⟨callB_of n hC.wd (gAll cw.2.2.2.2.1) rfl rfl rfl (hC.wd _ cw.2.2.2.1) (hC.wd _ cw.1) cw.2.2.2.2.2 ⟨hR.1, hR.2.1⟩, hC.wd _ cw.2.1, hC.wd _ cw.2.2.1⟩
  exact k_callK hC pc is hnd his ws' hlen hws hP hD hS hl (va_runV (As := As) (rest := st) hC.fix (hM H.size) hcw ⟨MPre.blind, by have h := va_recv hC.kk hP hci hq; rw [hqn] at h; exact h, fun U hU hW => k_pre hC is hnd his hP hD U hU hW⟩ rfl hn hl.1 rfl (lv_room hcat) hdg hR.2.2) kk
theorem k_callS (hC : CX G D cc own nL) (pc : Nat) (is : List Nat) (ws' : S → va_W) (hM : MU l y bytes maxL ret fr lo D As w0 post w1 mc ms) (cw : CWS own ix y bytes maxL ret n) (hdg : decode cc pc = .ok (.invokestatic ix, 3))
    (hR : fr + 1 ≤ R.frames ∧ 8 + (maxL + 11) + lo ≤ R.locals ∧ ce + mc ≤ R.cells ∧ sl + ms ≤ R.slots) (hn : As.length = n) (hcat : (st.map fun v => v.category).sum ≤ 8)
    (hnd : va_nd is = true) (his : is.map (fun i => ws[i]?) = w0.map some) (hlen : ∀ u, is.length ≤ (w1 u).length) (hws : ∀ u, putL ws is (w1 u) = ws' u)
    (st0 : List Value) (hst : st0 = As.reverse ++ st) (kk : ∀ (v : Option Value) (u : S), post v u → KJ l G D R nL (ce + mc) (sl + ms) (ws' u) lv (pc + 3) (v.toList ++ st)) : KJ l G D R nL ce sl ws lv pc st0 := by
  subst hst
  intro H locs ls hP hD hS hl
  have hcw : CallB R (ks G) (ka G) own ix y bytes maxL ret (.code y bytes maxL ret :: wsL_law) ({ frames := fr, cells := mc, slots := ms, locals := lo } : Room) mc ms n ∧ (Cond.static y).before (ka G) (ks G) = true := ⟨callB_of n hC.wd (gAll cw.2.2.2.1) rfl rfl rfl (hC.wd _ cw.2.2.1) (hC.wd _ cw.1) cw.2.2.2.2 ⟨hR.1, hR.2.1⟩, hC.wd _ cw.2.1⟩
  exact k_callK hC pc is hnd his ws' hlen hws hP hD hS hl (va_runS (As := As) (rest := st) hC.fix (hM H.size) hcw ⟨MPre.blind, fun U hU hW => k_pre hC is hnd his hP hD U hU hW⟩ rfl hn hl.1 rfl (lv_room hcat) hdg hR.2.2) kk
theorem k_callI (hC : CX G D cc own nL) (pc : Nat) {b : Nat} (is : List Nat) (ws' : S → va_W) (hM : MU l y bytes maxL none fr lo D (.ref b :: As) w0 post w1 mc ms) (cw : CWI own ix y bytes maxL n) (hdg : decode cc pc = .ok (.invokespecial ix, 3))
    (hR : fr + 1 ≤ R.frames ∧ 8 + (maxL + 11) + lo ≤ R.locals ∧ ce + mc ≤ R.cells ∧ sl + ms ≤ R.slots) (hn : As.length = n) (hcat : (st.map fun v => v.category).sum ≤ 8)
    (hnd : va_nd is = true) (his : is.map (fun i => ws[i]?) = w0.map some) (hlen : ∀ u, is.length ≤ (w1 u).length) (hws : ∀ u, putL ws is (w1 u) = ws' u)
    (st0 : List Value) (hst : st0 = As.reverse ++ .ref b :: st) (kk : ∀ (v : Option Value) (u : S), post v u → KJ l G D R nL (ce + mc) (sl + ms) (ws' u) lv (pc + 3) (v.toList ++ st)) : KJ l G D R nL ce sl ws lv pc st0 := by
  subst hst
  intro H locs ls hP hD hS hl
  have hcw : CallB R (ks G) (ka G) own ix y bytes maxL none (.code y bytes maxL none :: wsL_law) ({ frames := fr, cells := mc, slots := ms, locals := lo } : Room) mc ms n ∧ y.name = "<init>" ∧ (Cond.instanceMethod y).before (ka G) (ks G) = true := ⟨callB_of n hC.wd (gAll cw.2.2.2.1) rfl rfl rfl (hC.wd _ cw.2.2.1) (hC.wd _ cw.1) cw.2.2.2.2.2 ⟨hR.1, hR.2.1⟩, cw.2.2.2.2.1, hC.wd _ cw.2.1⟩
  exact k_callK hC pc is hnd his ws' hlen hws hP hD hS hl (va_runI (As := As) (rest := st) hC.fix (hM H.size) hcw ⟨MPre.blind, fun U hU hW => k_pre hC is hnd his hP hD U hU hW⟩ rfl hn hl.1 rfl (lv_room hcat) hdg hR.2.2) kk
theorem k_callVr (hC : CX G D cc own nL) (pc : Nat) {b ci : Nat} {q : vw_C} {fs : List Value} (q0 : Nat) (is : List Nat) (hM : MU l y bytes maxL ret fr lo D (.ref b :: As) w0 post w1 mc ms) (cw : CWV own ix y bytes maxL ret n) (hdg : decode cc pc = .ok (.invokevirtual ix, 3))
    (hR : fr + 1 ≤ R.frames ∧ 8 + (maxL + 11) + lo ≤ R.locals ∧ ce + mc ≤ R.cells ∧ sl + ms ≤ R.slots) (hn : As.length = n) (hcat : (st.map fun v => v.category).sum ≤ 8)
    (hq : ws[q0]? = some (b, .inr (ci, fs))) (hci : vwCl[ci]? = some q) (hqn : q.1 = y.cls) (hnd : va_nd is = true) (his : is.map (fun i => ws[i]?) = w0.map some) (hlen : ∀ u, is.length ≤ (w1 u).length) (hws : ∀ u, putL ws is (w1 u) = ws)
    (st0 : List Value) (hst : st0 = As.reverse ++ .ref b :: st) (kk : ∀ (v : Option Value) (u : S), post v u → KJ l G D R nL (ce + mc) (sl + ms) ws lv (pc + 3) (v.toList ++ st)) : KJ l G D R nL ce sl ws lv pc st0 := k_callV hC pc q0 is (fun _ => ws) hM cw hdg hR hn hcat hq hci hqn hnd his hlen hws st0 hst kk
theorem k_callSr (hC : CX G D cc own nL) (pc : Nat) (is : List Nat) (hM : MU l y bytes maxL ret fr lo D As w0 post w1 mc ms) (cw : CWS own ix y bytes maxL ret n) (hdg : decode cc pc = .ok (.invokestatic ix, 3))
    (hR : fr + 1 ≤ R.frames ∧ 8 + (maxL + 11) + lo ≤ R.locals ∧ ce + mc ≤ R.cells ∧ sl + ms ≤ R.slots) (hn : As.length = n) (hcat : (st.map fun v => v.category).sum ≤ 8)
    (hnd : va_nd is = true) (his : is.map (fun i => ws[i]?) = w0.map some) (hlen : ∀ u, is.length ≤ (w1 u).length) (hws : ∀ u, putL ws is (w1 u) = ws)
    (st0 : List Value) (hst : st0 = As.reverse ++ st) (kk : ∀ (v : Option Value) (u : S), post v u → KJ l G D R nL (ce + mc) (sl + ms) ws lv (pc + 3) (v.toList ++ st)) : KJ l G D R nL ce sl ws lv pc st0 := k_callS hC pc is (fun _ => ws) hM cw hdg hR hn hcat hnd his hlen hws st0 hst kk
theorem k_callIr (hC : CX G D cc own nL) (pc : Nat) {b : Nat} (is : List Nat) (hM : MU l y bytes maxL none fr lo D (.ref b :: As) w0 post w1 mc ms) (cw : CWI own ix y bytes maxL n) (hdg : decode cc pc = .ok (.invokespecial ix, 3))
    (hR : fr + 1 ≤ R.frames ∧ 8 + (maxL + 11) + lo ≤ R.locals ∧ ce + mc ≤ R.cells ∧ sl + ms ≤ R.slots) (hn : As.length = n) (hcat : (st.map fun v => v.category).sum ≤ 8)
    (hnd : va_nd is = true) (his : is.map (fun i => ws[i]?) = w0.map some) (hlen : ∀ u, is.length ≤ (w1 u).length) (hws : ∀ u, putL ws is (w1 u) = ws)
    (st0 : List Value) (hst : st0 = As.reverse ++ .ref b :: st) (kk : ∀ (v : Option Value) (u : S), post v u → KJ l G D R nL (ce + mc) (sl + ms) ws lv (pc + 3) (v.toList ++ st)) : KJ l G D R nL ce sl ws lv pc st0 := k_callI hC pc is (fun _ => ws) hM cw hdg hR hn hcat hnd his hlen hws st0 hst kk
theorem k_objInit (hC : CX G D cc own nL) (pc : Nat) {b : Nat} (hdg : decode cc pc = .ok (.invokespecial ix, 3)) (hw : Cond.methodLink own ix objectInit ∈ wsL_law) (hw2 : Cond.instanceMethod objectInit ∈ wsL_law) (hw3 : Cond.code objectInit ⟨#[0xb1]⟩ 1 none ∈ wsL_law) (hR : 1 ≤ R.frames ∧ (st.map fun v => v.category).sum + 12 ≤ R.locals) (kk : KJ l G D R nL ce sl ws lv (pc + 3) st) : KJ l G D R nL ce sl ws lv pc (.ref b :: st) := fun H locs ls hP hD hS hl => by
  refine W.objInit hC.ex hC.cd hC.on (hC.wd _ hw) (hC.wd _ hw2) (hC.wd _ hw3) rfl (hl.1.trans hC.ml.symm) rfl hdg hR.1 ?_ (kk H locs ls hP hD hS hl)
  show 2 * 0 + _ + 12 ≤ _
  have := hR.2
  omega
theorem k_newarrI (hC : CX G D cc own nL) (pc N : Nat) (hdg : decode cc pc = .ok (.newarray .int, 2)) (hN : N < 2147483648) (hb : N * 4 ≤ 536870912) (hR : ce + 1 ≤ R.cells ∧ sl + N ≤ R.slots) (kk : ∀ q : Nat, KJ l G D R nL (ce + 1) (sl + N) (ws ++ [(q, .inl (D.1 20, N, .inl (fun _ => 0)))]) lv (pc + 2) (.ref q :: st)) : KJ l G D R nL ce sl ws lv pc (.int (nI N) :: st) := fun H locs ls hP hD hS hl => by
  refine va_newa (atype := .int) (ty := .int) (a0 := (N, .inl (fun _ => 0))) hC.ex hC.cd (hC.wd (.arrayClass .int) wq_2_13) rfl hC.kk hP hD hS hC.nw (fun _ => rfl) (fun h => absurd (nI_pos' hN) (by intro h2; exact (Int32.not_lt.mpr h2) h)) (nI_clamp hN) hb hR.1 hR.2 hdg (fun q cA H1 hK1 hP1 hD1 hS1 => ?_)
  have e1 : (ks G).vm.findClass ("[" ++ FieldType.int.toString) = some cA := (hK1.2 5 (cA, .int) rfl).2
  have e2 : (ks G).vm.findClass ("[" ++ FieldType.int.toString) = some (D.1 20) := (hC.kk.2 0 (D.1 20, .int) rfl).2
  have e : cA = D.1 20 := Option.some.inj (e1.symm.trans e2)
  subst e
  exact kk q H1 locs ls hP1 hD1 hS1 hl
theorem k_new (hC : CX G D cc own nL) (pc ci : Nat) {C : String} {T : u_T} {N : Nat} {ty0 : Nat → FieldType} (fs : List Value) (hdg : decode cc pc = .ok (.new ix, 3)) (hc : vwCl[ci]? = some (C, T, N)) (hin : ∀ w ∈ u_ws C T N, w ∈ wsL_law) (hty : ∀ k, k < N → parseFieldDescriptor (T k).2.2.1 = some (ty0 k)) (hw : Cond.classLink own ix C ∈ wsL_law) (hw2 : Cond.instantiable C N ∈ wsL_law) (hw3 : Cond.initialized C ∈ wsL_law) (hfs : ∀ j, j < N → defaultValue (ty0 j) = vp_V fs j) (hR : ce + 1 ≤ R.cells ∧ sl + N ≤ R.slots) (kk : ∀ q : Nat, KJ l G D R nL (ce + 1) (sl + N) (ws ++ [(q, .inr (ci, fs))]) lv (pc + 3) (.ref q :: st)) : KJ l G D R nL ce sl ws lv pc st := fun H locs ls hP hD hS hl => va_new hC.ex hC.cd hC.wd hin ty0 hty hC.on (hC.wd _ hw) (hC.wd _ hw2) (hC.wd _ hw3) hC.kk hP hD hS hC.nw hc hfs hR.1 hR.2 hdg (fun q H1 hP1 hD1 hS1 => kk q H1 locs ls hP1 hD1 hS1 hl)
end CK
/-! THE SAME ROWS OVER NATURAL NUMBERS (nI) -/
section KN
variable {l : Launch} {G : KX} {D : va_G} {R : Room} {cc : ByteArray} {own : String} {nL ce sl : Nat} {ws : va_W} {lv lv' : List (Nat × Value)} {st : List Value}
theorem n_icmp_eq (hC : CX G D cc own nL) (pc : Nat) {a b : Nat} {off : Int} (tgt : Nat) (hdg : decode cc pc = .ok (.if_icmp .eq off, 3)) (ht : (pc : Int) + off = (tgt : Int)) (ha : a < 2147483648) (hb : b < 2147483648) (kt : a = b → KJ l G D R nL ce sl ws lv tgt st) (kf : ¬ a = b → KJ l G D R nL ce sl ws lv (pc + 3) st) : KJ l G D R nL ce sl ws lv pc (.int (nI b) :: .int (nI a) :: st) := by
  have e := (nI_eq ha hb)
  refine k_icmp_eq hC pc tgt hdg ht (fun h => kt ?_) (fun h => kf ?_)
  · first | exact e.mp h | exact fun z => h (e.mpr z) | exact fun z => absurd (e.mpr z) h | (have := e.mp h; omega)
  · first | exact e.mp h | exact fun z => h (e.mpr z) | exact Classical.byContradiction (fun z => h (fun y => z (e.mp y))) | (have : ¬ _ := fun z => h (e.mpr z); omega)
theorem n_icmp_ne (hC : CX G D cc own nL) (pc : Nat) {a b : Nat} {off : Int} (tgt : Nat) (hdg : decode cc pc = .ok (.if_icmp .ne off, 3)) (ht : (pc : Int) + off = (tgt : Int)) (ha : a < 2147483648) (hb : b < 2147483648) (kt : ¬ a = b → KJ l G D R nL ce sl ws lv tgt st) (kf : a = b → KJ l G D R nL ce sl ws lv (pc + 3) st) : KJ l G D R nL ce sl ws lv pc (.int (nI b) :: .int (nI a) :: st) := by
  have e := (nI_eq ha hb)
  refine k_icmp_ne hC pc tgt hdg ht (fun h => kt ?_) (fun h => kf ?_)
  · first | exact e.mp h | exact fun z => h (e.mpr z) | exact fun z => absurd (e.mpr z) h | (have := e.mp h; omega)
  · first | exact e.mp h | exact fun z => h (e.mpr z) | exact Classical.byContradiction (fun z => h (fun y => z (e.mp y))) | (have : ¬ _ := fun z => h (e.mpr z); omega)
theorem n_icmp_lt (hC : CX G D cc own nL) (pc : Nat) {a b : Nat} {off : Int} (tgt : Nat) (hdg : decode cc pc = .ok (.if_icmp .lt off, 3)) (ht : (pc : Int) + off = (tgt : Int)) (ha : a < 2147483648) (hb : b < 2147483648) (kt : a < b → KJ l G D R nL ce sl ws lv tgt st) (kf : b ≤ a → KJ l G D R nL ce sl ws lv (pc + 3) st) : KJ l G D R nL ce sl ws lv pc (.int (nI b) :: .int (nI a) :: st) := by
  have e := (nI_ltI ha hb)
  refine k_icmp_lt hC pc tgt hdg ht (fun h => kt ?_) (fun h => kf ?_)
  · first | exact e.mp h | exact fun z => h (e.mpr z) | exact fun z => absurd (e.mpr z) h | (have := e.mp h; omega)
  · first | exact e.mp h | exact fun z => h (e.mpr z) | exact Classical.byContradiction (fun z => h (fun y => z (e.mp y))) | (have : ¬ _ := fun z => h (e.mpr z); omega)
theorem n_icmp_ge (hC : CX G D cc own nL) (pc : Nat) {a b : Nat} {off : Int} (tgt : Nat) (hdg : decode cc pc = .ok (.if_icmp .ge off, 3)) (ht : (pc : Int) + off = (tgt : Int)) (ha : a < 2147483648) (hb : b < 2147483648) (kt : b ≤ a → KJ l G D R nL ce sl ws lv tgt st) (kf : a < b → KJ l G D R nL ce sl ws lv (pc + 3) st) : KJ l G D R nL ce sl ws lv pc (.int (nI b) :: .int (nI a) :: st) := by
  have e := (nI_leI hb ha)
  refine k_icmp_ge hC pc tgt hdg ht (fun h => kt ?_) (fun h => kf ?_)
  · first | exact e.mp h | exact fun z => h (e.mpr z) | exact fun z => absurd (e.mpr z) h | (have := e.mp h; omega)
  · first | exact e.mp h | exact fun z => h (e.mpr z) | exact Classical.byContradiction (fun z => h (fun y => z (e.mp y))) | (have : ¬ _ := fun z => h (e.mpr z); omega)
theorem n_icmp_gt (hC : CX G D cc own nL) (pc : Nat) {a b : Nat} {off : Int} (tgt : Nat) (hdg : decode cc pc = .ok (.if_icmp .gt off, 3)) (ht : (pc : Int) + off = (tgt : Int)) (ha : a < 2147483648) (hb : b < 2147483648) (kt : b < a → KJ l G D R nL ce sl ws lv tgt st) (kf : a ≤ b → KJ l G D R nL ce sl ws lv (pc + 3) st) : KJ l G D R nL ce sl ws lv pc (.int (nI b) :: .int (nI a) :: st) := by
  have e := (nI_ltI hb ha)
  refine k_icmp_gt hC pc tgt hdg ht (fun h => kt ?_) (fun h => kf ?_)
  · first | exact e.mp h | exact fun z => h (e.mpr z) | exact fun z => absurd (e.mpr z) h | (have := e.mp h; omega)
  · first | exact e.mp h | exact fun z => h (e.mpr z) | exact Classical.byContradiction (fun z => h (fun y => z (e.mp y))) | (have : ¬ _ := fun z => h (e.mpr z); omega)
theorem n_icmp_le (hC : CX G D cc own nL) (pc : Nat) {a b : Nat} {off : Int} (tgt : Nat) (hdg : decode cc pc = .ok (.if_icmp .le off, 3)) (ht : (pc : Int) + off = (tgt : Int)) (ha : a < 2147483648) (hb : b < 2147483648) (kt : a ≤ b → KJ l G D R nL ce sl ws lv tgt st) (kf : b < a → KJ l G D R nL ce sl ws lv (pc + 3) st) : KJ l G D R nL ce sl ws lv pc (.int (nI b) :: .int (nI a) :: st) := by
  have e := (nI_leI ha hb)
  refine k_icmp_le hC pc tgt hdg ht (fun h => kt ?_) (fun h => kf ?_)
  · first | exact e.mp h | exact fun z => h (e.mpr z) | exact fun z => absurd (e.mpr z) h | (have := e.mp h; omega)
  · first | exact e.mp h | exact fun z => h (e.mpr z) | exact Classical.byContradiction (fun z => h (fun y => z (e.mp y))) | (have : ¬ _ := fun z => h (e.mpr z); omega)
theorem n_if_eq (hC : CX G D cc own nL) (pc : Nat) {a : Nat} {off : Int} (tgt : Nat) (hdg : decode cc pc = .ok (.ifCond .eq off, 3)) (ht : (pc : Int) + off = (tgt : Int)) (ha : a < 2147483648) (kt : a = 0 → KJ l G D R nL ce sl ws lv tgt st) (kf : ¬ a = 0 → KJ l G D R nL ce sl ws lv (pc + 3) st) : KJ l G D R nL ce sl ws lv pc (.int (nI a) :: st) := by
  have e1 : nI a = 0 ↔ a = 0 := by rw [← nI_0]; exact nI_eq ha (by omega)
  have e2 : nI a ≤ 0 ↔ a ≤ 0 := by rw [← nI_0]; exact nI_leI ha (by omega)
  have e3 : (0 : Int32) < nI a ↔ 0 < a := by rw [← nI_0]; exact nI_ltI (by omega) ha
  have e4 : (0 : Int32) ≤ nI a ↔ 0 ≤ a := by rw [← nI_0]; exact nI_leI (by omega) ha
  have e5 : nI a < 0 ↔ a < 0 := by rw [← nI_0]; exact nI_ltI ha (by omega)
  refine k_if_eq hC pc tgt hdg ht (fun h => kt ?_) (fun h => kf ?_)
  · first | trivial | exact e1.mp h | exact e3.mp h | exact e5.mp h | exact fun z => h (e1.mpr z) | (have := e2.mp h; omega) | (have := e5.mp h; omega) | (have := e4.mp h; omega)
  · first | trivial | exact e1.mp h | exact e3.mp h | exact fun z => h (e1.mpr z) | exact Classical.byContradiction (fun z => h (fun y => z (e1.mp y))) | exact h (e4.mpr (Nat.zero_le _)) | (have z : ¬ _ := fun z => h (e3.mpr z); omega) | (have z : ¬ _ := fun z => h (e2.mpr z); omega)
theorem n_if_ne (hC : CX G D cc own nL) (pc : Nat) {a : Nat} {off : Int} (tgt : Nat) (hdg : decode cc pc = .ok (.ifCond .ne off, 3)) (ht : (pc : Int) + off = (tgt : Int)) (ha : a < 2147483648) (kt : ¬ a = 0 → KJ l G D R nL ce sl ws lv tgt st) (kf : a = 0 → KJ l G D R nL ce sl ws lv (pc + 3) st) : KJ l G D R nL ce sl ws lv pc (.int (nI a) :: st) := by
  have e1 : nI a = 0 ↔ a = 0 := by rw [← nI_0]; exact nI_eq ha (by omega)
  have e2 : nI a ≤ 0 ↔ a ≤ 0 := by rw [← nI_0]; exact nI_leI ha (by omega)
  have e3 : (0 : Int32) < nI a ↔ 0 < a := by rw [← nI_0]; exact nI_ltI (by omega) ha
  have e4 : (0 : Int32) ≤ nI a ↔ 0 ≤ a := by rw [← nI_0]; exact nI_leI (by omega) ha
  have e5 : nI a < 0 ↔ a < 0 := by rw [← nI_0]; exact nI_ltI ha (by omega)
  refine k_if_ne hC pc tgt hdg ht (fun h => kt ?_) (fun h => kf ?_)
  · first | trivial | exact e1.mp h | exact e3.mp h | exact e5.mp h | exact fun z => h (e1.mpr z) | (have := e2.mp h; omega) | (have := e5.mp h; omega) | (have := e4.mp h; omega)
  · first | trivial | exact e1.mp h | exact e3.mp h | exact fun z => h (e1.mpr z) | exact Classical.byContradiction (fun z => h (fun y => z (e1.mp y))) | exact h (e4.mpr (Nat.zero_le _)) | (have z : ¬ _ := fun z => h (e3.mpr z); omega) | (have z : ¬ _ := fun z => h (e2.mpr z); omega)
theorem n_if_gt (hC : CX G D cc own nL) (pc : Nat) {a : Nat} {off : Int} (tgt : Nat) (hdg : decode cc pc = .ok (.ifCond .gt off, 3)) (ht : (pc : Int) + off = (tgt : Int)) (ha : a < 2147483648) (kt : 0 < a → KJ l G D R nL ce sl ws lv tgt st) (kf : a = 0 → KJ l G D R nL ce sl ws lv (pc + 3) st) : KJ l G D R nL ce sl ws lv pc (.int (nI a) :: st) := by
  have e1 : nI a = 0 ↔ a = 0 := by rw [← nI_0]; exact nI_eq ha (by omega)
  have e2 : nI a ≤ 0 ↔ a ≤ 0 := by rw [← nI_0]; exact nI_leI ha (by omega)
  have e3 : (0 : Int32) < nI a ↔ 0 < a := by rw [← nI_0]; exact nI_ltI (by omega) ha
  have e4 : (0 : Int32) ≤ nI a ↔ 0 ≤ a := by rw [← nI_0]; exact nI_leI (by omega) ha
  have e5 : nI a < 0 ↔ a < 0 := by rw [← nI_0]; exact nI_ltI ha (by omega)
  refine k_if_gt hC pc tgt hdg ht (fun h => kt ?_) (fun h => kf ?_)
  · first | trivial | exact e1.mp h | exact e3.mp h | exact e5.mp h | exact fun z => h (e1.mpr z) | (have := e2.mp h; omega) | (have := e5.mp h; omega) | (have := e4.mp h; omega)
  · first | trivial | exact e1.mp h | exact e3.mp h | exact fun z => h (e1.mpr z) | exact Classical.byContradiction (fun z => h (fun y => z (e1.mp y))) | exact h (e4.mpr (Nat.zero_le _)) | (have z : ¬ _ := fun z => h (e3.mpr z); omega) | (have z : ¬ _ := fun z => h (e2.mpr z); omega)
theorem n_if_le (hC : CX G D cc own nL) (pc : Nat) {a : Nat} {off : Int} (tgt : Nat) (hdg : decode cc pc = .ok (.ifCond .le off, 3)) (ht : (pc : Int) + off = (tgt : Int)) (ha : a < 2147483648) (kt : a = 0 → KJ l G D R nL ce sl ws lv tgt st) (kf : 0 < a → KJ l G D R nL ce sl ws lv (pc + 3) st) : KJ l G D R nL ce sl ws lv pc (.int (nI a) :: st) := by
  have e1 : nI a = 0 ↔ a = 0 := by rw [← nI_0]; exact nI_eq ha (by omega)
  have e2 : nI a ≤ 0 ↔ a ≤ 0 := by rw [← nI_0]; exact nI_leI ha (by omega)
  have e3 : (0 : Int32) < nI a ↔ 0 < a := by rw [← nI_0]; exact nI_ltI (by omega) ha
  have e4 : (0 : Int32) ≤ nI a ↔ 0 ≤ a := by rw [← nI_0]; exact nI_leI (by omega) ha
  have e5 : nI a < 0 ↔ a < 0 := by rw [← nI_0]; exact nI_ltI ha (by omega)
  refine k_if_le hC pc tgt hdg ht (fun h => kt ?_) (fun h => kf ?_)
  · first | trivial | exact e1.mp h | exact e3.mp h | exact e5.mp h | exact fun z => h (e1.mpr z) | (have := e2.mp h; omega) | (have := e5.mp h; omega) | (have := e4.mp h; omega)
  · first | trivial | exact e1.mp h | exact e3.mp h | exact fun z => h (e1.mpr z) | exact Classical.byContradiction (fun z => h (fun y => z (e1.mp y))) | exact h (e4.mpr (Nat.zero_le _)) | (have z : ¬ _ := fun z => h (e3.mpr z); omega) | (have z : ¬ _ := fun z => h (e2.mpr z); omega)
theorem n_if_lt (hC : CX G D cc own nL) (pc : Nat) {a : Nat} {off : Int} (tgt : Nat) (hdg : decode cc pc = .ok (.ifCond .lt off, 3)) (ht : (pc : Int) + off = (tgt : Int)) (ha : a < 2147483648) (kt : False → KJ l G D R nL ce sl ws lv tgt st) (kf : True → KJ l G D R nL ce sl ws lv (pc + 3) st) : KJ l G D R nL ce sl ws lv pc (.int (nI a) :: st) := by
  have e1 : nI a = 0 ↔ a = 0 := by rw [← nI_0]; exact nI_eq ha (by omega)
  have e2 : nI a ≤ 0 ↔ a ≤ 0 := by rw [← nI_0]; exact nI_leI ha (by omega)
  have e3 : (0 : Int32) < nI a ↔ 0 < a := by rw [← nI_0]; exact nI_ltI (by omega) ha
  have e4 : (0 : Int32) ≤ nI a ↔ 0 ≤ a := by rw [← nI_0]; exact nI_leI (by omega) ha
  have e5 : nI a < 0 ↔ a < 0 := by rw [← nI_0]; exact nI_ltI ha (by omega)
  refine k_if_lt hC pc tgt hdg ht (fun h => kt ?_) (fun h => kf ?_)
  · first | trivial | exact e1.mp h | exact e3.mp h | exact e5.mp h | exact fun z => h (e1.mpr z) | (have := e2.mp h; omega) | (have := e5.mp h; omega) | (have := e4.mp h; omega)
  · first | trivial | exact e1.mp h | exact e3.mp h | exact fun z => h (e1.mpr z) | exact Classical.byContradiction (fun z => h (fun y => z (e1.mp y))) | exact h (e4.mpr (Nat.zero_le _)) | (have z : ¬ _ := fun z => h (e3.mpr z); omega) | (have z : ¬ _ := fun z => h (e2.mpr z); omega)
theorem n_if_ge (hC : CX G D cc own nL) (pc : Nat) {a : Nat} {off : Int} (tgt : Nat) (hdg : decode cc pc = .ok (.ifCond .ge off, 3)) (ht : (pc : Int) + off = (tgt : Int)) (ha : a < 2147483648) (kt : True → KJ l G D R nL ce sl ws lv tgt st) (kf : False → KJ l G D R nL ce sl ws lv (pc + 3) st) : KJ l G D R nL ce sl ws lv pc (.int (nI a) :: st) := by
  have e1 : nI a = 0 ↔ a = 0 := by rw [← nI_0]; exact nI_eq ha (by omega)
  have e2 : nI a ≤ 0 ↔ a ≤ 0 := by rw [← nI_0]; exact nI_leI ha (by omega)
  have e3 : (0 : Int32) < nI a ↔ 0 < a := by rw [← nI_0]; exact nI_ltI (by omega) ha
  have e4 : (0 : Int32) ≤ nI a ↔ 0 ≤ a := by rw [← nI_0]; exact nI_leI (by omega) ha
  have e5 : nI a < 0 ↔ a < 0 := by rw [← nI_0]; exact nI_ltI ha (by omega)
  refine k_if_ge hC pc tgt hdg ht (fun h => kt ?_) (fun h => kf ?_)
  · first | trivial | exact e1.mp h | exact e3.mp h | exact e5.mp h | exact fun z => h (e1.mpr z) | (have := e2.mp h; omega) | (have := e5.mp h; omega) | (have := e4.mp h; omega)
  · first | trivial | exact e1.mp h | exact e3.mp h | exact fun z => h (e1.mpr z) | exact Classical.byContradiction (fun z => h (fun y => z (e1.mp y))) | exact h (e4.mpr (Nat.zero_le _)) | (have z : ¬ _ := fun z => h (e3.mpr z); omega) | (have z : ¬ _ := fun z => h (e2.mpr z); omega)
theorem n_iald (hC : CX G D cc own nL) (pc : Nat) {a n i : Nat} {f : Nat → Int32} (q0 : Nat) (v : Int32) (hdg : decode cc pc = .ok (.iaload, 1)) (ha : ws[q0]? = some (a, .inl (D.1 20, n, .inl f))) (hi : i < n) (hn : n < 2147483648) (hv : f i = v) (kk : KJ l G D R nL ce sl ws lv (pc + 1) (.int v :: st)) : KJ l G D R nL ce sl ws lv pc (.int (nI i) :: .ref a :: st) := k_iald hC pc q0 hdg ha (vp_in_nI hi hn) (by rw [nI_clamp (by omega), hv]; exact kk)
theorem n_iast (hC : CX G D cc own nL) (pc : Nat) {a n i : Nat} {f : Nat → Int32} {x : Int32} (q0 : Nat) (ws' : va_W) (hdg : decode cc pc = .ok (.iastore, 1)) (ha : ws[q0]? = some (a, .inl (D.1 20, n, .inl f))) (hi : i < n) (hn : n < 2147483648) (hws : ws.set q0 (a, .inl (D.1 20, n, .inl (upd f i x))) = ws') (kk : KJ l G D R nL ce sl ws' lv (pc + 1) st) : KJ l G D R nL ce sl ws lv pc (.int x :: .int (nI i) :: .ref a :: st) := k_iast hC pc q0 ws' hdg ha (vp_in_nI hi hn) (by rw [nI_clamp (by omega)]; exact hws) kk
theorem n_iadd (hC : CX G D cc own nL) (pc : Nat) {a b : Nat} (v : Nat) (hdg : decode cc pc = .ok (.iadd, 1)) (hv : a + b = v) (k : KJ l G D R nL ce sl ws lv (pc + 1) (.int (nI v) :: st)) : KJ l G D R nL ce sl ws lv pc (.int (nI b) :: .int (nI a) :: st) := k_iadd hC pc hdg (KJ.topi ((nI_add a b).trans (by rw [hv])) k)
theorem n_imul (hC : CX G D cc own nL) (pc : Nat) {a b : Nat} (v : Nat) (hdg : decode cc pc = .ok (.imul, 1)) (hv : a * b = v) (k : KJ l G D R nL ce sl ws lv (pc + 1) (.int (nI v) :: st)) : KJ l G D R nL ce sl ws lv pc (.int (nI b) :: .int (nI a) :: st) := k_imul hC pc hdg (KJ.topi ((pk_mul a b).trans (by rw [hv])) k)
theorem n_isub (hC : CX G D cc own nL) (pc : Nat) {a b : Nat} (v : Nat) (hdg : decode cc pc = .ok (.isub, 1)) (h : b ≤ a) (hv : a - b = v) (k : KJ l G D R nL ce sl ws lv (pc + 1) (.int (nI v) :: st)) : KJ l G D R nL ce sl ws lv pc (.int (nI b) :: .int (nI a) :: st) := k_isub hC pc hdg (KJ.topi ((pk_sub h).trans (by rw [hv])) k)
end KN
end
section
/-! LISTS OF KINDS AND WHAT ROWS OF NUMBERS HOLD OF THEM -/
def RowL (L : List Nat) (f : Nat → Int32) : Prop := ∀ i : Nat, i < L.length → f i = nI (L.getD i 0)
def KL (L : List Nat) : Prop := ∀ k ∈ L, k < 40
theorem KL.g {L : List Nat} (h : KL L) (i : Nat) : L.getD i 0 < 40 := by
  by_cases hi : i < L.length
  · rw [List.getD_eq_getElem?_getD, List.getElem?_eq_getElem hi]
    exact h _ (List.getElem_mem hi)
  · rw [List.getD_eq_getElem?_getD, List.getElem?_eq_none (by omega)]
    decide
theorem RowL.nil {f : Nat → Int32} : RowL [] f := fun i h => absurd h (Nat.not_lt_zero i)
theorem RowL.of {L : List Nat} {f g : Nat → Int32} (h : RowL L f) (e : ∀ i : Nat, i < L.length → g i = f i) : RowL L g := fun i hi => (e i hi).trans (h i hi)
theorem ix_found : ∀ {L : List Nat} {i k : Nat}, i < L.length → L.getD i 0 = k → (∀ j : Nat, j < i → ¬ L.getD j 0 = k) → k ∈ L ∧ L.idxOf k = i
  | [], i, k, hi, _, _ => absurd hi (Nat.not_lt_zero i)
  | a :: t, 0, k, _, h, _ => by
    have e : a = k := by simpa using h
    subst e
    exact ⟨List.mem_cons_self, List.idxOf_cons_self⟩
  | a :: t, i + 1, k, hi, h, hb => by
    have ha : ¬ a = k := by simpa using hb 0 (Nat.succ_pos i)
    obtain ⟨h1, h2⟩ := ix_found (L := t) (i := i) (k := k) (by simpa using hi) (by simpa using h) (fun j hj => by simpa using hb (j + 1) (Nat.succ_lt_succ hj))
    refine ⟨List.mem_cons_of_mem _ h1, ?_⟩
    rw [List.idxOf_cons, h2, show (a == k) = false from beq_false_of_ne ha]
    rfl
theorem ix_none {L : List Nat} {k : Nat} (hb : ∀ j : Nat, j < L.length → ¬ L.getD j 0 = k) : k ∉ L := by
  intro h
  obtain ⟨j, hj, e⟩ := List.getElem_of_mem h
  refine hb j hj ?_
  rw [List.getD_eq_getElem?_getD, List.getElem?_eq_getElem hj]
  exact e
def ixv (L : List Nat) (k : Nat) : Int32 := if k ∈ L then nI (L.idxOf k) else -1
theorem ixv_in {L : List Nat} {k : Nat} (h : k ∈ L) : ixv L k = nI (L.idxOf k) := if_pos h
theorem ixv_out {L : List Nat} {k : Nat} (h : k ∉ L) : ixv L k = -1 := if_neg h
theorem nI_m1 {n : Nat} (h : n < 2147483648) : nI n ≠ -1 := fun e => by
  have := congrArg Int32.toInt e
  rw [nI_toInt h] at this
  have h2 : (-1 : Int32).toInt = -1 := by decide
  omega
theorem ixv_m1 {L : List Nat} {k : Nat} (hL : L.length ≤ 40) : ixv L k = -1 ↔ k ∉ L := by
  refine ⟨fun e h => ?_, ixv_out⟩
  rw [ixv_in h] at e
  have := List.idxOf_lt_length_of_mem h
  exact nI_m1 (by omega) e
/-- a yes or no as a number -/
def yn (p : Prop) [Decidable p] : Nat := if p then 1 else 0
theorem yn_t {p : Prop} [Decidable p] (h : p) : yn p = 1 := if_pos h
theorem yn_f {p : Prop} [Decidable p] (h : ¬ p) : yn p = 0 := if_neg h
theorem yn_le {p : Prop} [Decidable p] : yn p ≤ 1 := by unfold yn; split <;> omega
theorem yn_0 {p : Prop} [Decidable p] : yn p = 0 ↔ ¬ p := by unfold yn; split <;> simp [*]
theorem upd_s (f : Nat → Int32) (k : Nat) (x : Int32) : upd f k x k = x := pk_us
theorem upd_n {f : Nat → Int32} {k j : Nat} {x : Int32} (h : j ≠ k) : upd f k x j = f j := pk_un h
theorem RowL.push {L : List Nat} {f : Nat → Int32} (h : RowL L f) (k : Nat) : RowL (L ++ [k]) (upd f L.length (nI k)) := by
  intro i hi
  rw [List.length_append, List.length_singleton] at hi
  by_cases e : i = L.length
  · subst e
    rw [upd_s]
    simp
  · rw [upd_n e, h i (by omega)]
    simp [List.getD_eq_getElem?_getD, List.getElem?_append_left (show i < L.length by omega)]
theorem KL.push {L : List Nat} {k : Nat} (h : KL L) (hk : k < 40) : KL (L ++ [k]) := fun x hx => (List.mem_append.mp hx).elim (h x) (fun h2 => by rw [List.mem_singleton.mp h2]; exact hk)
/-- a row from whose place p one was taken, as far as i -/
def shf (f : Nat → Int32) (p i : Nat) : Nat → Int32 := fun j => if p ≤ j ∧ j + 1 < i then f (j + 1) else f j
theorem shf_0 (f : Nat → Int32) (p : Nat) : shf f p (p + 1) = f := by
  funext j
  unfold shf
  rw [if_neg (by omega)]
theorem shf_at (f : Nat → Int32) (p i : Nat) : shf f p i i = f i := by
  unfold shf
  rw [if_neg (by omega)]
theorem shf_step {f : Nat → Int32} {p i : Nat} (h : p < i) : upd (shf f p i) (i - 1) (f i) = shf f p (i + 1) := by
  funext j
  by_cases e : j = i - 1
  · subst e
    rw [upd_s]
    unfold shf
    rw [if_pos (by omega), show i - 1 + 1 = i by omega]
  · rw [upd_n e]
    unfold shf
    by_cases h1 : p ≤ j ∧ j + 1 < i
    · rw [if_pos h1, if_pos (by omega)]
    · rw [if_neg h1, if_neg (by omega)]
theorem RowL.cut {L : List Nat} {f : Nat → Int32} (h : RowL L f) {p : Nat} (hp : p < L.length) : RowL (L.eraseIdx p) (shf f p L.length) := by
  intro i hi
  rw [List.length_eraseIdx_of_lt hp] at hi
  rw [List.getD_eq_getElem?_getD, List.getElem?_eraseIdx]
  unfold shf
  by_cases h1 : i < p
  · rw [if_neg (by omega), h i (by omega), if_pos h1, List.getD_eq_getElem?_getD]
  · rw [if_pos (by omega), h (i + 1) (by omega), if_neg h1, List.getD_eq_getElem?_getD]
theorem KL.cut {L : List Nat} (h : KL L) (p : Nat) : KL (L.eraseIdx p) := fun x hx => h x (List.mem_of_mem_eraseIdx hx)
theorem KL.drop {L : List Nat} (h : KL L) (p : Nat) : KL (L.drop p) := fun x hx => h x (List.mem_of_mem_drop hx)
theorem drop_e0 (L : List Nat) (j : Nat) : (L.drop j).eraseIdx 0 = L.drop (j + 1) := by rw [List.eraseIdx_zero, List.tail_drop]
/-- digests of kinds -/
def dks (d : Int64) (L : List Nat) : Int64 := L.foldl (fun d k => d * 31 + (nI k).toInt64) d
theorem take_s {L : List Nat} {i : Nat} (h : i < L.length) : L.take (i + 1) = L.take i ++ [L.getD i 0] := by
  rw [List.take_add_one, List.getD_eq_getElem?_getD, List.getElem?_eq_getElem h]
  rfl
theorem dks_s {L : List Nat} {i : Nat} (d : Int64) (h : i < L.length) : dks d (L.take (i + 1)) = dks d (L.take i) * 31 + (nI (L.getD i 0)).toInt64 := by
  unfold dks
  rw [take_s h, List.foldl_append]
  rfl
/-- a copy, as far as i -/
def cpf (g f : Nat → Int32) (i : Nat) : Nat → Int32 := fun j => if j < i then g j else f j
theorem cpf_0 (g f : Nat → Int32) : cpf g f 0 = f := by
  funext j
  unfold cpf
  rw [if_neg (by omega)]
theorem cpf_step (g f : Nat → Int32) (i : Nat) : upd (cpf g f i) i (g i) = cpf g f (i + 1) := by
  funext j
  by_cases e : j = i
  · subst e
    rw [upd_s]
    unfold cpf
    rw [if_pos (by omega)]
  · rw [upd_n e]
    unfold cpf
    by_cases h : j < i
    · rw [if_pos h, if_pos (by omega)]
    · rw [if_neg h, if_neg (by omega)]
theorem cpf_in {g f : Nat → Int32} {i j : Nat} (h : j < i) : cpf g f i j = g j := if_pos h
end
section
/-! ROWS FOR ARRAYS OF REFERENCES, BOOLEAN ARRAYS, POOLS OF JARS, WORLDS IN ANOTHER ORDER, CALLS OF NEST MATES -/
section KO
variable {l : Launch} {G : KX} {D : va_G} {R : Room} {cc : ByteArray} {own : String} {nL ce sl : Nat} {ws ws' : va_W} {lv : List (Nat × Value)} {st : List Value}
abbrev qv (f : Nat → Option Nat) : (Nat → Int32) ⊕ (Nat → Int64) ⊕ (Nat → UInt32) ⊕ (Nat → UInt64) ⊕ (Nat → Option Nat) := .inr (.inr (.inr (.inr f)))
theorem va_D_nodup {A : Nat → Prop} {ws : va_W} : va_D A ws ↔ (ws.map Prod.fst).Nodup ∧ ∀ q ∈ ws, A q.1 := by
  constructor
  · intro h
    refine ⟨?_, fun q hq => ?_⟩
    · rw [List.Nodup, List.pairwise_iff_getElem]
      intro i j hi hj hij e
      rw [List.length_map] at hi hj
      rw [List.getElem_map, List.getElem_map] at e
      have := h.1 i j ws[i] ws[j] (List.getElem?_eq_getElem hi) (List.getElem?_eq_getElem hj) e
      omega
    · obtain ⟨k, hk⟩ := List.getElem?_of_mem hq
      exact h.2 k q hk
  · intro h
    refine ⟨fun i j p q hp hq e => ?_, fun k q hk => h.2 q (List.mem_of_getElem? hk)⟩
    obtain ⟨hi, rfl⟩ := List.getElem?_eq_some_iff.mp hp
    obtain ⟨hj, rfl⟩ := List.getElem?_eq_some_iff.mp hq
    have h2 := List.pairwise_iff_getElem.mp h.1
    rcases Nat.lt_trichotomy i j with z | z | z
    · exact absurd (by rw [List.getElem_map, List.getElem_map]; exact e) (h2 i j (by rw [List.length_map]; exact hi) (by rw [List.length_map]; exact hj) z)
    · exact z
    · exact absurd (by rw [List.getElem_map, List.getElem_map]; exact e.symm) (h2 j i (by rw [List.length_map]; exact hj) (by rw [List.length_map]; exact hi) z)
theorem va_P_mem {D : va_G} {cl : List vw_C} {ws : va_W} {H : Heap} : va_P D cl ws H ↔ ∀ q ∈ ws, va_at D cl q H := by
  constructor
  · intro h q hq
    obtain ⟨k, hk⟩ := List.getElem?_of_mem hq
    exact h k q hk
  · exact fun h k q hk => h q (List.mem_of_getElem? hk)
/-- the world in another order -/
theorem KJ.pm {pc : Nat} (h : ws.Perm ws') (k : KJ l G D R nL ce sl ws' lv pc st) : KJ l G D R nL ce sl ws lv pc st := fun H locs ls hP hD hS hl => by
  rw [va_P_mem] at hP
  rw [va_D_nodup] at hD
  exact k H locs ls (va_P_mem.mpr fun q hq => hP q (h.mem_iff.mpr hq)) (va_D_nodup.mpr ⟨(h.map Prod.fst).nodup_iff.mp hD.1, fun q hq => hD.2 q (h.mem_iff.mpr hq)⟩) hS hl
/-- cells forgotten -/
theorem KJ.fg {pc : Nat} (h : ws'.Sublist ws) (k : KJ l G D R nL ce sl ws' lv pc st) : KJ l G D R nL ce sl ws lv pc st := fun H locs ls hP hD hS hl => by
  rw [va_P_mem] at hP
  rw [va_D_nodup] at hD
  exact k H locs ls (va_P_mem.mpr fun q hq => hP q (h.subset hq)) (va_D_nodup.mpr ⟨hD.1.sublist (h.map Prod.fst), fun q hq => hD.2 q (h.subset hq)⟩) hS hl
/-- the last cell in the place of another -/
theorem KJ.rp {pc : Nat} (X Y : va_W) (c d : Nat × va_E) (h : ws = X ++ c :: (Y ++ [d])) (h' : X ++ d :: Y = ws') (k : KJ l G D R nL ce sl ws' lv pc st) : KJ l G D R nL ce sl ws lv pc st := by
  subst h
  subst h'
  refine KJ.pm (ws' := X ++ c :: d :: Y) ((List.Perm.cons c (List.perm_append_singleton d Y)).append_left X) (KJ.fg ?_ k)
  exact List.Sublist.append (List.Sublist.refl X) (List.sublist_cons_self c (d :: Y))
/-- the last cell, further to the front -/
theorem KJ.mv {pc : Nat} (X Y : va_W) (d : Nat × va_E) (h : ws = X ++ (Y ++ [d])) (h' : X ++ d :: Y = ws') (k : KJ l G D R nL ce sl ws' lv pc st) : KJ l G D R nL ce sl ws lv pc st := by
  subst h
  subst h'
  exact KJ.pm ((List.perm_append_singleton d Y).append_left X) k
/-- a cell forgotten -/
theorem KJ.dr {pc : Nat} (X Y : va_W) (d : Nat × va_E) (h : ws = X ++ d :: Y) (h' : X ++ Y = ws') (k : KJ l G D R nL ce sl ws' lv pc st) : KJ l G D R nL ce sl ws lv pc st := by
  subst h
  subst h'
  exact KJ.fg (List.Sublist.append (List.Sublist.refl X) (List.sublist_cons_self d Y)) k
/-- the last cell, into the pool -/
theorem KJ.ps {pc : Nat} (X : va_W) {L : List Nat} {f : Nat → va_E} {q : Nat} {e : va_E} (h : ws = X ++ (va_pl L f ++ [(q, e)])) (k : q ∉ L → KJ l G D R nL ce sl (X ++ va_pl (L ++ [q]) (va_up f q e)) lv pc st) : KJ l G D R nL ce sl ws lv pc st := fun H locs ls hP hD hS hl => by
  subst h
  have hq : q ∉ L := va_pl_fresh2 (X := X) (f := f) (e := e) (by rw [List.append_assoc]; exact hD)
  have e0 : X ++ (va_pl L f ++ [(q, e)]) = X ++ va_pl (L ++ [q]) (va_up f q e) := by rw [va_pl_push hq]
  rw [e0] at hP hD
  exact k hq H locs ls hP hD hS hl
theorem pl_mem {L : List Nat} {f : Nat → va_E} {a : Nat} {e : va_E} (h : a ∈ L) (he : f a = e) : (a, e) ∈ va_pl L f := List.mem_map.mpr ⟨a, h, by rw [he]⟩
/-- a field, by the cell -/
theorem m_getf (hC : CX G D cc own nL) (pc : Nat) {ix ci N a : Nat} {C : String} {T : u_T} {fs : List Value} (k : Nat) {v : Value} (hdg : decode cc pc = .ok (.getfield ix, 3)) (he : (a, .inr (ci, fs)) ∈ ws) (hc : vwCl[ci]? = some (C, T, N)) (hin : ∀ w ∈ u_ws C T N, w ∈ wsL_law) (hk : k < N) (hw : Cond.fieldLink own ix (T k).1 (T k).2.1 (T k).2.2.1 ∈ wsL_law) (hv : fs[k]? = some v) (kk : KJ l G D R nL ce sl ws lv (pc + 3) (v :: st)) : KJ l G D R nL ce sl ws lv pc (.ref a :: st) := by
  obtain ⟨q0, h0⟩ := List.getElem?_of_mem he
  exact k_getf hC pc q0 k hdg h0 hc hin hk hw hv kk
/-- a field of a jar of the pool is written -/
theorem p_putf (hC : CX G D cc own nL) (pc : Nat) (X : va_W) {L : List Nat} {f : Nat → va_E} {ix a : Nat} {fs : List Value} (k : Nat) {v : Value} (ws' : va_W) (hdg : decode cc pc = .ok (.putfield ix, 3)) (hX : ws = X ++ va_pl L f) (ha : a ∈ L) (he : f a = .inr (4, fs)) (hk : k < 4) (hw : Cond.fieldLink own ix (TX4 k).1 (TX4 k).2.1 (TX4 k).2.2.1 ∈ wsL_law) (hfin : (TX4 k).2.2.2 = false) (hn : narrow (tyX4 k) v = v) (hfit : fits (tyX4 k) v = true) (hl0 : k < fs.length) (hws : X ++ va_pl L (va_up f a (.inr (4, fs.set k v))) = ws') (kk : KJ l G D R nL ce sl ws' lv (pc + 3) st) : KJ l G D R nL ce sl ws lv pc (v :: .ref a :: st) := by
  subst hX
  obtain ⟨q0, h0⟩ := va_pl_get (X := X) (f := f) ha
  intro H locs ls hP hD hS hl
  have h1 := h0
  rw [he] at h1
  exact k_putf hC pc q0 (C := RX4) (T := TX4) (N := 4) (ty0 := tyX4) k _ hdg h1 rfl inlX4 tyX4_ok nmX4 hk hw hfin hn hfit hl0 ((va_pl_set hD ha h0).trans hws) kk H locs ls hP hD hS hl
/-- .. and where it is final: in the constructor -/
theorem p_putfF (hC : CX G D cc own nL) (pc : Nat) (X : va_W) {L : List Nat} {f : Nat → va_E} {ix a : Nat} {fs : List Value} (k : Nat) {v : Value} (ws' : va_W) (hdg : decode cc pc = .ok (.putfield ix, 3)) (hX : ws = X ++ va_pl L f) (ha : a ∈ L) (he : f a = .inr (4, fs)) (hk : k < 4) (hw : Cond.fieldLink own ix (TX4 k).1 (TX4 k).2.1 (TX4 k).2.2.1 ∈ wsL_law) (hfin : (TX4 k).2.2.2 = true) (hinit : (kme G).name = "<init>") (hdecl : (TX4 k).1 = own) (hn : narrow (tyX4 k) v = v) (hfit : fits (tyX4 k) v = true) (hl0 : k < fs.length) (hws : X ++ va_pl L (va_up f a (.inr (4, fs.set k v))) = ws') (kk : KJ l G D R nL ce sl ws' lv (pc + 3) st) : KJ l G D R nL ce sl ws lv pc (v :: .ref a :: st) := by
  subst hX
  obtain ⟨q0, h0⟩ := va_pl_get (X := X) (f := f) ha
  intro H locs ls hP hD hS hl
  have h1 := h0
  rw [he] at h1
  exact k_putfF hC pc q0 (C := RX4) (T := TX4) (N := 4) (ty0 := tyX4) k _ hdg h1 rfl inlX4 tyX4_ok nmX4 hk hw hfin hinit hdecl hn hfit hl0 ((va_pl_set hD ha h0).trans hws) kk H locs ls hP hD hS hl
/-- a new array of jars -/
theorem k_anewJ (hC : CX G D cc own nL) (pc n : Nat) {ix : Nat} (hdg : decode cc pc = .ok (.anewarray ix, 3)) (hw : Cond.classLink own ix RX4 ∈ wsL_law) (hn : n < 2147483648) (hb : n * 4 ≤ 536870912) (hR : ce + 1 ≤ R.cells ∧ sl + n ≤ R.slots)
    (kk : ∀ q : Nat, KJ l G D R nL (ce + 1) (sl + n) (ws ++ [(q, .inl (D.1 22, n, qv (fun _ => none)))]) lv (pc + 3) (.ref q :: st)) : KJ l G D R nL ce sl ws lv pc (.int (nI n) :: st) := fun H locs ls hP hD hS hl => by
  refine va_newq hC.ex hC.cd hC.on (hC.wd _ hw) hC.kt.2.2.2.2.2.2.2.1 hC.kk hP hD hS hC.nw (nI_pos hn) (nI_clamp hn) hb hR.1 hR.2 hdg (fun q cA H1 hK1 hP1 hD1 hS1 => ?_)
  obtain ⟨kA, comp, -, -, -, e1⟩ := (hK1.2 5 (cA, .object RX4) rfl).2
  obtain ⟨kA2, comp2, -, -, -, e2⟩ := (hC.kk.2 2 (D.1 22, .object RX4) rfl).2
  have e : cA = D.1 22 := Option.some.inj (e1.symm.trans e2)
  subst e
  exact kk q H1 locs ls hP1 hD1 hS1 hl
/-- a new array of arrays -/
theorem k_anewA (hC : CX G D cc own nL) (pc n : Nat) {ix : Nat} {t : FieldType} {cA : ClassId} {S : String} (t0 : Nat) (ht : (kty D)[t0]? = some (cA, .array t)) (hAA : va_AA t (ks G)) (hS0 : (FieldType.array t).toString = S) (hdg : decode cc pc = .ok (.anewarray ix, 3)) (hw : Cond.classLink own ix S ∈ wsL_law) (hn : n < 2147483648) (hb : n * 4 ≤ 536870912) (hR : ce + 1 ≤ R.cells ∧ sl + n ≤ R.slots)
    (kk : ∀ q : Nat, KJ l G D R nL (ce + 1) (sl + n) (ws ++ [(q, .inl (cA, n, qv (fun _ => none)))]) lv (pc + 3) (.ref q :: st)) : KJ l G D R nL ce sl ws lv pc (.int (nI n) :: st) := fun H locs ls hP hD hS hl => by
  have e0 : (nI n).toNatClampNeg = n := nI_clamp hn
  subst hS0
  have hA : (ks G).vm.findClass ("[" ++ (FieldType.array t).toString) = some cA := (hC.kk.2 t0 _ ht).2
  refine W.anewA (t := t) hC.ex hC.cd hC.on (hC.wd _ hw) hAA rfl hdg rfl (nI_pos hn) (by rw [e0]; exact hb) hR.1 (by rw [e0]; exact hR.2) fun cA2 kA comp f1 f2 f3 f4 => ?_
  have hcA : cA2 = cA := Option.some.inj (f1.symm.trans hA)
  subst hcA
  rw [e0]
  generalize hH1 : H.push ({ cls := cA2, slots := Array.replicate n .null, vm := .none } : Cell) = H1
  have z1 : H1.size = H.size + 1 := by rw [← hH1, Array.size_push]
  have e1 : H1[H.size]? = some (arrV cA2 n (fun _ => .null)) := by rw [← hH1, Array.getElem?_push_size, ← arrV_new]
  have o1 : ∀ q : Nat, q < H.size → H1[q]? = H[q]? := fun q hq => by rw [← hH1, Array.getElem?_push, if_neg (Nat.ne_of_lt hq)]
  have hk : ∀ (k : Nat) (x : Nat × va_E), ws[k]? = some x → H1[x.1]? = H[x.1]? := fun k x hx => o1 x.1 ((hP k x hx).lt)
  refine kk H.size H1 locs ls ((hP.kept hk).app (fun k x hx => ?_)) (hD.push hP rfl (hC.nw _ hS.1)) ⟨Nat.le_trans hS.1 (by omega), fun x h1 h2 => (o1 x (Nat.lt_of_lt_of_le h1 hS.1)).trans (hS.2.1 x h1 h2), hS.2.2⟩ hl
  have hz : k < 1 := (List.getElem?_eq_some_iff.mp hx).1
  rw [show k = 0 by omega] at hx
  cases hx
  show H1[H.size]? = some (vp_cell _ _)
  rw [vp_cell_q]
  exact e1
/-- an element that is a reference -/
theorem k_aald (hC : CX G D cc own nL) (pc q0 i t0 : Nat) {a n v : Nat} {cA : ClassId} {ty : FieldType} {f : Nat → Option Nat} (hdg : decode cc pc = .ok (.aaload, 1)) (ha : ws[q0]? = some (a, .inl (cA, n, qv f))) (ht : (kty D)[t0]? = some (cA, ty)) (hty : ty.isReference = true) (hi : i < n) (hn : n < 2147483648) (hv : f i = some v)
    (kk : KJ l G D R nL ce sl ws lv (pc + 1) (.ref v :: st)) : KJ l G D R nL ce sl ws lv pc (.int (nI i) :: .ref a :: st) := fun H locs ls hP hD hS hl => by
  have e0 : (nI i).toNatClampNeg = i := nI_clamp (by omega)
  refine W.aald (v := va_rf (f i)) (ty := ty) hC.ex hC.cd (hP q0 _ ha) ((hC.kk.2 t0 _ ht).1 n (fun j => va_rf (f j))) hty (fun q => by cases q) (by show ¬ (nI i < 0 ∨ (arrV cA n (fun j => va_rf (f j))).slots.size ≤ (nI i).toNatClampNeg); rw [arrV_size, e0]; exact fun z => z.elim (nI_pos (by omega)) (by omega)) (by show (arrV cA n (fun j => va_rf (f j))).slots[(nI i).toNatClampNeg]? = _; rw [e0, arrV_read _ _ hi]) rfl rfl hdg ?_
  rw [hv]
  exact kk H locs ls hP hD hS hl
/-- a jar into an array of jars -/
theorem k_astJ (hC : CX G D cc own nL) (pc q0 i : Nat) {a n v : Nat} {fs : List Value} {f : Nat → Option Nat} (ws' : va_W) (hdg : decode cc pc = .ok (.aastore, 1)) (ha : ws[q0]? = some (a, .inl (D.1 22, n, qv f))) (hv : (v, .inr (4, fs)) ∈ ws) (hi : i < n) (hn : n < 2147483648)
    (hws : ws.set q0 (a, .inl (D.1 22, n, qv (va_up f i (some v)))) = ws') (kk : KJ l G D R nL ce sl ws' lv (pc + 1) st) : KJ l G D R nL ce sl ws lv pc (.ref v :: .int (nI i) :: .ref a :: st) := fun H locs ls hP hD hS hl => by
  have e0 : (nI i).toNatClampNeg = i := nI_clamp (by omega)
  obtain ⟨qk, hk⟩ := List.getElem?_of_mem hv
  refine va_astq (r := (RX4, TX4, 4)) hC.ex hC.cd hC.kk hP hD hS q0 2 qk 4 ha rfl hk rfl (vp_in_nI hi hn) hdg (fun H1 locs1 hP1 hD1 hS1 => ?_)
  rw [e0, hws] at hP1 hD1
  exact kk H1 locs1 ls hP1 hD1 hS1 hl
/-- an array into an array of arrays: t is what its own cells are -/
theorem k_astA (hC : CX G D cc own nL) (pc q0 qk i : Nat) {t : FieldType} {cA cB : ClassId} (t0 t1 : Nat) {a n v : Nat} {x : vp_A} {f : Nat → Option Nat} (ws' : va_W) (hAA : va_AA t (ks G)) (ht : (kty D)[t0]? = some (cA, .array t)) (ht1 : (kty D)[t1]? = some (cB, t)) (hcB : (ks G).vm.findClass (FieldType.array t).toString = some cB) (hdg : decode cc pc = .ok (.aastore, 1)) (ha : ws[q0]? = some (a, .inl (cA, n, qv f))) (hv : ws[qk]? = some (v, .inl (cB, x))) (hi : i < n) (hn : n < 2147483648)
    (hws : ws.set q0 (a, .inl (cA, n, qv (va_up f i (some v)))) = ws') (kk : KJ l G D R nL ce sl ws' lv (pc + 1) st) : KJ l G D R nL ce sl ws lv pc (.ref v :: .int (nI i) :: .ref a :: st) := fun H locs ls hP hD hS hl => by
  have e0 : (nI i).toNatClampNeg = i := nI_clamp (by omega)
  obtain ⟨-, kI, hkI, compI, hkindI⟩ := (hC.kk.2 t1 (cB, t) ht1).1 0 (fun _ => .null)
  obtain ⟨comp0, c0, k0, g1, -, g3, g4, g5⟩ := arrayOverA_spec hAA
  have hA : (ks G).vm.findClass ("[" ++ (FieldType.array t).toString) = some cA := (hC.kk.2 t0 _ ht).2
  have hc0 : c0 = cA := Option.some.inj (g5.symm.trans hA)
  subst hc0
  have hcomp : comp0 = cB := Option.some.inj (g1.symm.trans hcB)
  subst hcomp
  have hcl0 : (vp_cell comp0 x).cls = comp0 := by obtain ⟨n, f | f | f | f | f⟩ := x <;> rfl
  have hvm0 : (vp_cell comp0 x).vm = .none := by obtain ⟨n, f | f | f | f | f⟩ := x <;> rfl
  have hlt : (nI i).toNatClampNeg < (arrV c0 n (fun j => va_rf (f j))).slots.size := by rw [arrV_size, e0]; exact hi
  refine W.aast hC.ex hC.cd (hP q0 _ ha) (fun q h => by cases h) (fun h => by cases h) g3 g4 rfl hkI ⟨nI_pos (by omega), hlt⟩ (hP qk _ hv) (fun q h => by rw [hvm0] at h; cases h) (by rw [hcl0]; exact hkI) (by rw [hcl0]; exact va_asg _ _) rfl rfl hdg fun H1 e z oq => ?_
  subst hws
  refine kk H1 _ ls (hP.set hD ha ?_ oq) (hD.set ha) (hS.put z oq (hD.2 q0 _ ha)) hl
  show H1[a]? = some (vp_cell _ _)
  rw [e, e0]
  rw [vp_cell_q, vp_cell_q, arrV_store]
  congr 2
  funext q
  by_cases hq : q = i
  · subst hq
    simp [updV, va_up, va_rf]
  · simp [updV, va_up, hq]
theorem fcI (hC : CX G D cc own nL) : (ks G).vm.findClass (FieldType.array .int).toString = some (D.1 20) := (hC.kk.2 0 (D.1 20, .int) rfl).2
theorem fcJ (hC : CX G D cc own nL) : (ks G).vm.findClass (FieldType.array (.object RX4)).toString = some (D.1 22) := by
  obtain ⟨kA2, comp2, -, -, -, e2⟩ := (hC.kk.2 2 (D.1 22, .object RX4) rfl).2
  exact e2
/-- booleans -/
theorem k_newarrZ (hC : CX G D cc own nL) (pc N : Nat) (hw : Cond.arrayClass .boolean ∈ wsL_law) (hdg : decode cc pc = .ok (.newarray .boolean, 2)) (hN : N < 2147483648) (hb : N * 1 ≤ 536870912) (hR : ce + 1 ≤ R.cells ∧ sl + N ≤ R.slots) (kk : ∀ q : Nat, KJ l G D R nL (ce + 1) (sl + N) (ws ++ [(q, .inl (D.1 21, N, .inl (fun _ => 0)))]) lv (pc + 2) (.ref q :: st)) : KJ l G D R nL ce sl ws lv pc (.int (nI N) :: st) := fun H locs ls hP hD hS hl => by
  refine va_newa (atype := .boolean) (ty := .boolean) (a0 := (N, .inl (fun _ => 0))) hC.ex hC.cd (hC.wd (.arrayClass .boolean) hw) rfl hC.kk hP hD hS hC.nw (fun _ => rfl) (fun h => absurd (nI_pos' hN) (by intro h2; exact (Int32.not_lt.mpr h2) h)) (nI_clamp hN) hb hR.1 hR.2 hdg (fun q cA H1 hK1 hP1 hD1 hS1 => ?_)
  have e1 : (ks G).vm.findClass ("[" ++ FieldType.boolean.toString) = some cA := (hK1.2 5 (cA, .boolean) rfl).2
  have e2 : (ks G).vm.findClass ("[" ++ FieldType.boolean.toString) = some (D.1 21) := (hC.kk.2 1 (D.1 21, .boolean) rfl).2
  have e : cA = D.1 21 := Option.some.inj (e1.symm.trans e2)
  subst e
  exact kk q H1 locs ls hP1 hD1 hS1 hl
theorem n_zald (hC : CX G D cc own nL) (pc : Nat) {a n i : Nat} {f : Nat → Int32} (q0 : Nat) (v : Int32) (hdg : decode cc pc = .ok (.baload, 1)) (ha : ws[q0]? = some (a, .inl (D.1 21, n, .inl f))) (hi : i < n) (hn : n < 2147483648) (hv : f i = v) (kk : KJ l G D R nL ce sl ws lv (pc + 1) (.int v :: st)) : KJ l G D R nL ce sl ws lv pc (.int (nI i) :: .ref a :: st) := fun H locs ls hP hD hS hl =>
  va_zald hC.ex hC.cd hC.kk hP q0 1 ha rfl (vp_in_nI hi hn) hdg (by rw [nI_clamp (by omega), hv]; exact kk H locs ls hP hD hS hl)
theorem n_zast (hC : CX G D cc own nL) (pc : Nat) {a n i : Nat} {f : Nat → Int32} {x : Int32} (q0 : Nat) (ws' : va_W) (hdg : decode cc pc = .ok (.bastore, 1)) (ha : ws[q0]? = some (a, .inl (D.1 21, n, .inl f))) (hi : i < n) (hn : n < 2147483648) (hx : vp_nar .boolean x = x) (hws : ws.set q0 (a, .inl (D.1 21, n, .inl (upd f i x))) = ws') (kk : KJ l G D R nL ce sl ws' lv (pc + 1) st) : KJ l G D R nL ce sl ws lv pc (.int x :: .int (nI i) :: .ref a :: st) := fun H locs ls hP hD hS hl =>
  va_zast hC.ex hC.cd hC.kk hP hD hS q0 1 ha rfl (vp_in_nI hi hn) hdg (fun H1 locs1 hP1 hD1 hS1 => by
    rw [nI_clamp (by omega), hx, hws] at hP1 hD1
    exact kk H1 locs1 ls hP1 hD1 hS1 hl)
/-- null, and references compared -/
theorem k_null (hC : CX G D cc own nL) (pc : Nat) (hdg : decode cc pc = .ok (.aconst_null, 1)) (k : KJ l G D R nL ce sl ws lv (pc + 1) (.null :: st)) : KJ l G D R nL ce sl ws lv pc st := fun H locs ls hP hD hS hl => lv_null hC.ex hC.cd hdg (k H locs ls hP hD hS hl)
theorem k_ifnonnull (hC : CX G D cc own nL) (pc : Nat) {x : Nat} {off : Int} (tgt : Nat) (hdg : decode cc pc = .ok (.ifnonnull off, 3)) (ht : (pc : Int) + off = (tgt : Int)) (k : KJ l G D R nL ce sl ws lv tgt st) : KJ l G D R nL ce sl ws lv pc (.ref x :: st) := fun H locs ls hP hD hS hl => lv_ifnonnull hC.ex hC.cd hdg ht (k H locs ls hP hD hS hl)
theorem k_ifnull (hC : CX G D cc own nL) (pc : Nat) {x : Nat} {off : Int} (hdg : decode cc pc = .ok (.ifnull off, 3)) (k : KJ l G D R nL ce sl ws lv (pc + 3) st) : KJ l G D R nL ce sl ws lv pc (.ref x :: st) := fun H locs ls hP hD hS hl => lv_ifnull hC.ex hC.cd hdg (k H locs ls hP hD hS hl)
theorem k_ifnullN (hC : CX G D cc own nL) (pc : Nat) {off : Int} (tgt : Nat) (hdg : decode cc pc = .ok (.ifnull off, 3)) (ht : (pc : Int) + off = (tgt : Int)) (k : KJ l G D R nL ce sl ws lv tgt st) : KJ l G D R nL ce sl ws lv pc (.null :: st) := fun H locs ls hP hD hS hl => lv_ifnullN hC.ex hC.cd hdg ht (k H locs ls hP hD hS hl)
theorem k_ifnonnullN (hC : CX G D cc own nL) (pc : Nat) {off : Int} (hdg : decode cc pc = .ok (.ifnonnull off, 3)) (k : KJ l G D R nL ce sl ws lv (pc + 3) st) : KJ l G D R nL ce sl ws lv pc (.null :: st) := fun H locs ls hP hD hS hl => lv_ifnonnullN hC.ex hC.cd hdg (k H locs ls hP hD hS hl)
theorem k_ishr (hC : CX G D cc own nL) (pc : Nat) {x y : Int32} (hdg : decode cc pc = .ok (.ishr, 1)) (k : KJ l G D R nL ce sl ws lv (pc + 1) (.int (x >>> (y &&& 31)) :: st)) : KJ l G D R nL ce sl ws lv pc (.int y :: .int x :: st) := fun H locs ls hP hD hS hl => lv_ishr hC.ex hC.cd hdg (k H locs ls hP hD hS hl)
theorem k_ineg (hC : CX G D cc own nL) (pc : Nat) {x : Int32} (hdg : decode cc pc = .ok (.ineg, 1)) (k : KJ l G D R nL ce sl ws lv (pc + 1) (.int (-x) :: st)) : KJ l G D R nL ce sl ws lv pc (.int x :: st) := fun H locs ls hP hD hS hl => lv_ineg hC.ex hC.cd hdg (k H locs ls hP hD hS hl)
theorem k_aloadN_n (hC : CX G D cc own nL) (pc : Nat) {k0 : Fin 4} (hdg : decode cc pc = .ok (.aload_n k0, 1)) (hg : lvg lv (k0 : Nat) = some .null) (k : KJ l G D R nL ce sl ws lv (pc + 1) (.null :: st)) : KJ l G D R nL ce sl ws lv pc (st) := fun H locs ls hP hD hS hl => lv_aload_nN hC.ex hC.cd hdg rfl (lvg_at hl hg) (k H locs ls hP hD hS hl)
theorem k_aloadN (hC : CX G D cc own nL) (pc : Nat) {i0 : Nat} (hdg : decode cc pc = .ok (.aload i0, 2)) (hg : lvg lv i0 = some .null) (k : KJ l G D R nL ce sl ws lv (pc + 2) (.null :: st)) : KJ l G D R nL ce sl ws lv pc (st) := fun H locs ls hP hD hS hl => lv_aloadN hC.ex hC.cd hdg (lvg_at hl hg) (k H locs ls hP hD hS hl)
theorem k_astore_nN (hC : CX G D cc own nL) (pc : Nat) {k0 : Fin 4} (i1 : Nat) (lv' : List (Nat × Value)) (hdg : decode cc pc = .ok (.astore_n k0, 1)) (hi : (k0 : Nat) = i1) (hn : i1 < nL) (he : (i1, Value.null) :: lv.filter (fun q => !(q.1 == i1) && !(q.1 + 1 == i1 && q.2.category == 2)) = lv') (k : KJ l G D R nL ce sl ws lv' (pc + 1) st) : KJ l G D R nL ce sl ws lv pc (.null :: st) := fun H locs ls hP hD hS hl => lv_astore_nN hC.ex hC.cd hdg hi hl hn he (fun ls' hl' => k H locs ls' hP hD hS hl')
theorem k_astoreN (hC : CX G D cc own nL) (pc : Nat) (i1 : Nat) (lv' : List (Nat × Value)) (hdg : decode cc pc = .ok (.astore i1, 2)) (hn : i1 < nL) (he : (i1, Value.null) :: lv.filter (fun q => !(q.1 == i1) && !(q.1 + 1 == i1 && q.2.category == 2)) = lv') (k : KJ l G D R nL ce sl ws lv' (pc + 2) st) : KJ l G D R nL ce sl ws lv pc (.null :: st) := fun H locs ls hP hD hS hl => lv_astoreN hC.ex hC.cd hdg hl hn he (fun ls' hl' => k H locs ls' hP hD hS hl')
theorem k_acmp_eq (hC : CX G D cc own nL) (pc : Nat) {x y : Nat} {off : Int} (tgt : Nat) (hdg : decode cc pc = .ok (.if_acmp .eq off, 3)) (ht : (pc : Int) + off = (tgt : Int)) (kt : x = y → KJ l G D R nL ce sl ws lv tgt st) (kf : ¬ x = y → KJ l G D R nL ce sl ws lv (pc + 3) st) : KJ l G D R nL ce sl ws lv pc (.ref y :: .ref x :: st) := fun H locs ls hP hD hS hl => lv_acmp_eq (rx := some x) (ry := some y) hC.ex hC.cd hdg ht (fun h => kt (Option.some.inj h) H locs ls hP hD hS hl) (fun h => kf (fun z => h (congrArg some z)) H locs ls hP hD hS hl)
theorem k_acmp_ne (hC : CX G D cc own nL) (pc : Nat) {x y : Nat} {off : Int} (tgt : Nat) (hdg : decode cc pc = .ok (.if_acmp .ne off, 3)) (ht : (pc : Int) + off = (tgt : Int)) (kt : ¬ x = y → KJ l G D R nL ce sl ws lv tgt st) (kf : x = y → KJ l G D R nL ce sl ws lv (pc + 3) st) : KJ l G D R nL ce sl ws lv pc (.ref y :: .ref x :: st) := fun H locs ls hP hD hS hl => lv_acmp_ne (rx := some x) (ry := some y) hC.ex hC.cd hdg ht (fun h => kt (fun z => h (congrArg some z)) H locs ls hP hD hS hl) (fun h => kf (Option.some.inj h) H locs ls hP hD hS hl)
end KO
section KP
variable {S : Type} {l : Launch} {G : KX} {D : va_G} {R : Room} {cc : ByteArray} {own : String} {nL ce sl : Nat} {ws : va_W} {lv : List (Nat × Value)} {st : List Value}
variable {y : MethodName} {bytes : ByteArray} {maxL : Nat} {ret : Option FieldType} {fr lo : Nat} {w0 : va_W} {post : Option Value → S → Prop} {w1 : S → va_W} {mc ms n ix : Nat} {As : List Value}
/-- what a call of a nest mate needs of the tables: static, constructor -/
def CNS (y : MethodName) (bytes : ByteArray) (maxL : Nat) (ret : Option FieldType) (n : Nat) : Prop :=
  Cond.static y ∈ wsL_law ∧ Cond.initialized y.cls ∈ wsL_law ∧ Cond.code y bytes maxL ret ∈ wsL_law ∧ (y.cls ≠ "java/lang/invoke/MethodHandle" ∧ y.cls ≠ "java/lang/invoke/VarHandle" ∧ (parseMethodDescriptor y.desc).map (fun d => d.parameters.length) = some n)
theorem k_callSN (hC : CX G D cc own nL) (pc : Nat) (is : List Nat) (ws' : S → va_W) (hM : MU l y bytes maxL ret fr lo D As w0 post w1 mc ms) (hnest : va_Nw (.methodLinkNest own ix y RL) (ks G)) (cw : CNS y bytes maxL ret n) (hdg : decode cc pc = .ok (.invokestatic ix, 3))
    (hR : fr + 1 ≤ R.frames ∧ 8 + (maxL + 11) + lo ≤ R.locals ∧ ce + mc ≤ R.cells ∧ sl + ms ≤ R.slots) (hn : As.length = n) (hcat : (st.map fun v => v.category).sum ≤ 8)
    (hnd : va_nd is = true) (his : is.map (fun i => ws[i]?) = w0.map some) (hlen : ∀ u, is.length ≤ (w1 u).length) (hws : ∀ u, putL ws is (w1 u) = ws' u)
    (st0 : List Value) (hst : st0 = As.reverse ++ st) (kk : ∀ (v : Option Value) (u : S), post v u → KJ l G D R nL (ce + mc) (sl + ms) (ws' u) lv (pc + 3) (v.toList ++ st)) : KJ l G D R nL ce sl ws lv pc st0 := by
  subst hst
  intro H locs ls hP hD hS hl
  have hcw := va_cnB (own := own) (host := RL) (index := ix) (s := ks G) (args := ka G) (R := R) (rm := ({ frames := fr, cells := mc, slots := ms, locals := lo } : Room)) (mc := mc) (ms := ms) (ws := .code y bytes maxL ret :: wsL_law) n hC.wd (gAll cw.2.2.1) rfl rfl rfl hnest (hC.wd _ cw.2.1) cw.2.2.2 ⟨hR.1, hR.2.1⟩
  exact k_callK hC pc is hnd his ws' hlen hws hP hD hS hl (va_runSN (As := As) (rest := st) hC.fix (hM H.size) ⟨hcw, hC.wd _ cw.1, trivial⟩ ⟨MPre.blind, fun U hU hW => k_pre hC is hnd his hP hD U hU hW⟩ rfl hn hl.1 rfl (lv_room hcat) hdg hR.2.2) kk
def CNI (y : MethodName) (bytes : ByteArray) (maxL : Nat) (n : Nat) : Prop :=
  Cond.instanceMethod y ∈ wsL_law ∧ Cond.initialized y.cls ∈ wsL_law ∧ Cond.code y bytes maxL none ∈ wsL_law ∧ y.name = "<init>" ∧ (y.cls ≠ "java/lang/invoke/MethodHandle" ∧ y.cls ≠ "java/lang/invoke/VarHandle" ∧ (parseMethodDescriptor y.desc).map (fun d => d.parameters.length) = some n)
theorem k_callIN (hC : CX G D cc own nL) (pc : Nat) {b : Nat} (is : List Nat) (ws' : S → va_W) (hM : MU l y bytes maxL none fr lo D (.ref b :: As) w0 post w1 mc ms) (hnest : va_Nw (.methodLinkNest own ix y RL) (ks G)) (cw : CNI y bytes maxL n) (hdg : decode cc pc = .ok (.invokespecial ix, 3))
    (hR : fr + 1 ≤ R.frames ∧ 8 + (maxL + 11) + lo ≤ R.locals ∧ ce + mc ≤ R.cells ∧ sl + ms ≤ R.slots) (hn : As.length = n) (hcat : (st.map fun v => v.category).sum ≤ 8)
    (hnd : va_nd is = true) (his : is.map (fun i => ws[i]?) = w0.map some) (hlen : ∀ u, is.length ≤ (w1 u).length) (hws : ∀ u, putL ws is (w1 u) = ws' u)
    (st0 : List Value) (hst : st0 = As.reverse ++ .ref b :: st) (kk : ∀ (v : Option Value) (u : S), post v u → KJ l G D R nL (ce + mc) (sl + ms) (ws' u) lv (pc + 3) (v.toList ++ st)) : KJ l G D R nL ce sl ws lv pc st0 := by
  subst hst
  intro H locs ls hP hD hS hl
  have hcw := va_cnB (own := own) (host := RL) (index := ix) (s := ks G) (args := ka G) (R := R) (rm := ({ frames := fr, cells := mc, slots := ms, locals := lo } : Room)) (mc := mc) (ms := ms) (ws := .code y bytes maxL none :: wsL_law) n hC.wd (gAll cw.2.2.1) rfl rfl rfl hnest (hC.wd _ cw.2.1) cw.2.2.2.2 ⟨hR.1, hR.2.1⟩
  exact k_callK hC pc is hnd his ws' hlen hws hP hD hS hl (va_runIN (As := As) (rest := st) hC.fix (hM H.size) ⟨hcw, cw.2.2.2.1, hC.wd _ cw.1⟩ ⟨MPre.blind, fun U hU hW => k_pre hC is hnd his hP hD U hU hW⟩ rfl hn hl.1 rfl (lv_room hcat) hdg hR.2.2) kk
end KP
end
