/-! THE JUDGEMENT: a method's walk over a world in lists, heap and locals hidden (KJ); its constants in one tuple (KX). -/
abbrev KX : Type := Program × Env × State × MethodId × Array Value × List Frame × Method × Code × (State → Prop) × (Nat → Prop)
abbrev kp (G : KX) : Program := G.1
abbrev ke (G : KX) : Env := G.2.1
abbrev ks (G : KX) : State := G.2.2.1
abbrev km (G : KX) : MethodId := G.2.2.2.1
abbrev ka (G : KX) : Array Value := G.2.2.2.2.1
abbrev kb (G : KX) : List Frame := G.2.2.2.2.2.1
abbrev kme (G : KX) : Method := G.2.2.2.2.2.2.1
abbrev kc (G : KX) : Code := G.2.2.2.2.2.2.2.1
abbrev kQ (G : KX) : State → Prop := G.2.2.2.2.2.2.2.2.1
abbrev kA (G : KX) : Nat → Prop := G.2.2.2.2.2.2.2.2.2
/-- the arrays' classes stand in D behind the objects' -/
abbrev kty (D : va_G) : List (ClassId × FieldType) := [(D.1 20, .int), (D.1 21, .boolean), (D.1 22, .object RX4), (D.1 23, .array (.object RX4)), (D.1 24, .array .int)]
def va_AA (t : FieldType) (U : State) : Prop := (Cond.arrayOver (.array t)).before #[] U = true
theorem va_AA.moved {t : FieldType} {u U : State} (hvm : u.vm.Alike U.vm) (h : va_AA t u) : va_AA t U := by
  obtain ⟨comp, c, k, h1, h2, h3, h4, h5⟩ := arrayOverA_spec h
  obtain ⟨k', hk', he⟩ := hvm.2.2 _ _ h3
  have hi : (U.vm.classes.findIdx? fun (x : Class) => match x.kind with | .array component _ => component == comp | _ => false) = some c := by
    rw [hvm.findIdx?_eq _ (fun _ => rfl)]
    exact h2
  have hkind : k'.kind = .array comp (.array t) := by rw [he]; exact h4
  have f1 : U.vm.findClass (FieldType.array t).toString = some comp := by rw [hvm.findClass]; exact h1
  have f2 : U.vm.findClass ("[" ++ (FieldType.array t).toString) = some c := by rw [hvm.findClass]; exact h5
  unfold va_AA Cond.before Cond.holds
  simp only [Cond.value]
  rw [f1, Option.bind_some]
  refine (congrArg (fun o : Option Nat => (o.bind (fun c => (U.vm.classes[c]?).map fun (k : Class) => match k.kind with | .array _ ty => decide (ty = FieldType.array t) && decide (U.vm.findClass ("[" ++ (FieldType.array t).toString) = some c) | _ => false) == some true)) hi).trans ?_
  simp [hk', hkind, f2]
theorem va_AA.same {t : FieldType} {u U : State} (e : u.vm = U.vm) (h : va_AA t u) : va_AA t U := va_AA.moved (by rw [e]; exact Vm.Alike.refl U.vm) h
/-- what the tables say, beside the words -/
def KT (D : va_G) (U : State) : Prop := va_K D vwCl (kty D) U ∧ va_Nw (.fieldLinkNest RX1 70 RX0 "length" "I" RX3) U ∧ va_Nw (.fieldLinkNest RX3 45 RX1 "pins" "LPinnedPantry$Table;" RX3) U ∧ va_Nw (.fieldLinkNest RX3 78 RX1 "places" "I" RX3) U ∧ va_Nw (.fieldLinkNest RX3 87 RX1 "goal" "I" RX3) U ∧ va_AA .int U ∧ va_AA (.object RX4) U ∧ va_AO RX4 U ∧ va_Nw (.methodLinkNest RL 83 yX5_init RL) U ∧ va_Nw (.methodLinkNest RX5 57 yL_without RL) U ∧ va_Nw (.methodLinkNest RX5 63 yL_with RL) U ∧ va_Nw (.methodLinkNest RX5 71 yL_with_ RL) U ∧ va_Nw (.methodLinkNest RX5 74 yL_without_ RL) U
theorem KT.warm {D : va_G} {s U : State} (hW : s.WarmedH U.vm) (h : KT D s) : KT D U := by
  obtain ⟨h0, h1, h2, h3, h4, h5, h6, h7, h8, h9, h10, h11, h12⟩ := h
  exact ⟨va_K.moved hW.alike h0, va_Nw.warmF hW h1, va_Nw.warmF hW h2, va_Nw.warmF hW h3, va_Nw.warmF hW h4, va_AA.moved hW.alike h5, va_AA.moved hW.alike h6, va_AO.moved hW.alike h7, va_Nw.warmM hW h8, va_Nw.warmM hW h9, va_Nw.warmM hW h10, va_Nw.warmM hW h11, va_Nw.warmM hW h12⟩
theorem KT.same {D : va_G} {u U : State} (h : u.vm = U.vm) (hZ : KT D u) : KT D U := by
  obtain ⟨h0, h1, h2, h3, h4, h5, h6, h7, h8, h9, h10, h11, h12⟩ := hZ
  exact ⟨va_K.moved (by rw [h]; exact Vm.Alike.refl U.vm) h0, va_Nw.same rfl h h1, va_Nw.same rfl h h2, va_Nw.same rfl h h3, va_Nw.same rfl h h4, va_AA.same h h5, va_AA.same h h6, va_AO.moved (by rw [h]; exact Vm.Alike.refl U.vm) h7, va_Nw.same rfl h h8, va_Nw.same rfl h h9, va_Nw.same rfl h h10, va_Nw.same rfl h h11, va_Nw.same rfl h h12⟩
def KJ (l : Launch) (G : KX) (D : va_G) (R : Room) (nL ce sl : Nat) (ws : va_W) (lv : List (Nat × Value)) (pc : Nat) (st : List Value) : Prop :=
  ∀ (H : Heap) (locs : List Loc) (ls : Array Slot), va_P D vwCl ws H → va_D (kA G) ws → va_S (kA G) (ks G).heap H locs → lv_has ls nL lv → W (kp G) l (ke G) R (ks G) (km G) (ka G) (kb G) (kme G) (kc G) H locs ce sl (kQ G) (F0 (km G) pc ls st)
def CX (G : KX) (D : va_G) (cc : ByteArray) (own : String) (nL : Nat) : Prop :=
  (kp G).tables.exec = Jvm.exec ∧ (kc G).code = cc ∧ (kc G).maxLocals = nL ∧ (ks G).vm.findClass own = some (km G).cls ∧ (∀ w ∈ wsL_law, w.before (ka G) (ks G) = true) ∧ KT D (ks G) ∧ ∀ q : Nat, (ks G).heap.size ≤ q → kA G q
section CXs
variable {G : KX} {D : va_G} {cc : ByteArray} {own : String} {nL : Nat}
theorem CX.ex (h : CX G D cc own nL) : (kp G).tables.exec = Jvm.exec := h.1
theorem CX.cd (h : CX G D cc own nL) : (kc G).code = cc := h.2.1
theorem CX.ml (h : CX G D cc own nL) : (kc G).maxLocals = nL := h.2.2.1
theorem CX.on (h : CX G D cc own nL) : (ks G).vm.findClass own = some (km G).cls := h.2.2.2.1
theorem CX.wd (h : CX G D cc own nL) : ∀ w ∈ wsL_law, w.before (ka G) (ks G) = true := h.2.2.2.2.1
theorem CX.kt (h : CX G D cc own nL) : KT D (ks G) := h.2.2.2.2.2.1
theorem CX.kk (h : CX G D cc own nL) : va_K D vwCl (kty D) (ks G) := h.2.2.2.2.2.1.1
theorem CX.nw (h : CX G D cc own nL) : ∀ q : Nat, (ks G).heap.size ≤ q → kA G q := h.2.2.2.2.2.2
theorem CX.fix (h : CX G D cc own nL) : CallFix (kp G) (km G) (kc G) cc nL (ks G) (ka G) wsL_law own := ⟨h.ex, h.cd, h.ml, h.on, h.wd⟩
end CXs
/-- a local by its number -/
def lvg : List (Nat × Value) → Nat → Option Value
  | [], _ => none
  | (a, v) :: l, i => match Nat.beq a i with
    | true => some v
    | false => lvg l i
theorem lvg_at {ls : Array Slot} {n : Nat} : ∀ {lv : List (Nat × Value)} {i : Nat} {v : Value}, lv_has ls n lv → lvg lv i = some v → ls[i]? = some (.val v)
  | [], _, _, _, h => by cases h
  | (a, w) :: l, i, v, hl, h => by
    unfold lvg at h
    cases hb : Nat.beq a i with
    | true =>
      rw [hb] at h
      have e : a = i := Nat.eq_of_beq_eq_true hb
      subst e
      cases h
      exact hl.2.2 (a, w) List.mem_cons_self
    | false =>
      rw [hb] at h
      exact lvg_at ⟨hl.1, hl.2.1, fun q hq => hl.2.2 q (List.mem_cons_of_mem _ hq)⟩ h
section KS
variable {l : Launch} {G : KX} {D : va_G} {R : Room} {cc : ByteArray} {own : String} {nL ce sl : Nat} {ws : va_W} {lv lv' : List (Nat × Value)} {st : List Value}
theorem KJ.eqs {pc : Nat} {st' : List Value} (e : st = st') (k : KJ l G D R nL ce sl ws lv pc st') : KJ l G D R nL ce sl ws lv pc st := by rw [e]; exact k
theorem KJ.eqw {pc : Nat} {ws' : va_W} (e : ws = ws') (k : KJ l G D R nL ce sl ws' lv pc st) : KJ l G D R nL ce sl ws lv pc st := by rw [e]; exact k
theorem KJ.topi {pc : Nat} {x y : Int32} (e : x = y) (k : KJ l G D R nL ce sl ws lv pc (.int y :: st)) : KJ l G D R nL ce sl ws lv pc (.int x :: st) := by rw [e]; exact k
theorem KJ.topl {pc : Nat} {x y : Int64} (e : x = y) (k : KJ l G D R nL ce sl ws lv pc (.long y :: st)) : KJ l G D R nL ce sl ws lv pc (.long x :: st) := by rw [e]; exact k
theorem KJ.wide {pc ce' sl' : Nat} (h1 : ce ≤ ce') (h2 : sl ≤ sl') (k : KJ l G D R nL ce' sl' ws lv pc st) : KJ l G D R nL ce sl ws lv pc st := fun H locs ls hP hD hS hl => W.widen h1 h2 (k H locs ls hP hD hS hl)
/-- fewer locals, in any order, by their numbers -/
theorem KJ.lvs {pc : Nat} (h : lv'.all (fun q => match lvg lv q.1 with | some _ => true | none => false) = true) (h2 : ∀ q ∈ lv', lvg lv q.1 = some q.2) (k : KJ l G D R nL ce sl ws lv' pc st) : KJ l G D R nL ce sl ws lv pc st := fun H locs ls hP hD hS hl => k H locs ls hP hD hS ⟨hl.1, hl.2.1, fun q hq => lvg_at hl (h2 q hq)⟩
theorem KJ.lvp {pc : Nat} (ks : List Nat) (h : lv_pick lv ks = lv') (k : KJ l G D R nL ce sl ws lv' pc st) : KJ l G D R nL ce sl ws lv pc st := fun H locs ls hP hD hS hl => k H locs ls hP hD hS (lv_sub hl ks h)
/-- a part of the world, in any order -/
theorem KJ.sub {pc : Nat} {ws' : va_W} (is : List Nat) (hn : va_nd is = true) (h1 : is.filterMap (fun i => ws[i]?) = ws') (h2 : is.map (fun i => ws[i]?) = ws'.map some) (k : KJ l G D R nL ce sl ws' lv pc st) : KJ l G D R nL ce sl ws lv pc st := fun H locs ls hP hD hS hl => k H locs ls (hP.sub is h1) (hD.sub is hn h2) hS hl

theorem k_iconst (hC : CX G D cc own nL) (pc : Nat) {n : Int} (hdg : decode cc pc = .ok (.iconst n, 1)) (v : Int32) (hv : Int32.ofInt n = v) (k : KJ l G D R nL ce sl ws lv (pc + 1) (.int v :: st)) : KJ l G D R nL ce sl ws lv pc (st) := fun H locs ls hP hD hS hl => lv_iconst hC.ex hC.cd hdg hv (k H locs ls hP hD hS hl)
theorem k_bipush (hC : CX G D cc own nL) (pc : Nat) {n : Int} (hdg : decode cc pc = .ok (.bipush n, 2)) (v : Int32) (hv : (Int8.ofInt n).toInt32 = v) (k : KJ l G D R nL ce sl ws lv (pc + 2) (.int v :: st)) : KJ l G D R nL ce sl ws lv pc (st) := fun H locs ls hP hD hS hl => lv_bipush hC.ex hC.cd hdg hv (k H locs ls hP hD hS hl)
theorem k_sipush (hC : CX G D cc own nL) (pc : Nat) {n : Int} (hdg : decode cc pc = .ok (.sipush n, 3)) (v : Int32) (hv : (Int16.ofInt n).toInt32 = v) (k : KJ l G D R nL ce sl ws lv (pc + 3) (.int v :: st)) : KJ l G D R nL ce sl ws lv pc (st) := fun H locs ls hP hD hS hl => lv_sipush hC.ex hC.cd hdg hv (k H locs ls hP hD hS hl)
theorem k_iload_n (hC : CX G D cc own nL) (pc : Nat) {k0 : Fin 4} (hdg : decode cc pc = .ok (.iload_n k0, 1)) {x : Int32} (hg : lvg lv (k0 : Nat) = some (.int x)) (k : KJ l G D R nL ce sl ws lv (pc + 1) (.int x :: st)) : KJ l G D R nL ce sl ws lv pc (st) := fun H locs ls hP hD hS hl => lv_iload_n hC.ex hC.cd hdg rfl (lvg_at hl hg) (k H locs ls hP hD hS hl)
theorem k_iload (hC : CX G D cc own nL) (pc : Nat) {i0 : Nat} (hdg : decode cc pc = .ok (.iload i0, 2)) {x : Int32} (hg : lvg lv i0 = some (.int x)) (k : KJ l G D R nL ce sl ws lv (pc + 2) (.int x :: st)) : KJ l G D R nL ce sl ws lv pc (st) := fun H locs ls hP hD hS hl => lv_iload hC.ex hC.cd hdg (lvg_at hl hg) (k H locs ls hP hD hS hl)
theorem k_lload_n (hC : CX G D cc own nL) (pc : Nat) {k0 : Fin 4} (hdg : decode cc pc = .ok (.lload_n k0, 1)) {x : Int64} (hg : lvg lv (k0 : Nat) = some (.long x)) (k : KJ l G D R nL ce sl ws lv (pc + 1) (.long x :: st)) : KJ l G D R nL ce sl ws lv pc (st) := fun H locs ls hP hD hS hl => lv_lload_n hC.ex hC.cd hdg rfl (lvg_at hl hg) (k H locs ls hP hD hS hl)
theorem k_lload (hC : CX G D cc own nL) (pc : Nat) {i0 : Nat} (hdg : decode cc pc = .ok (.lload i0, 2)) {x : Int64} (hg : lvg lv i0 = some (.long x)) (k : KJ l G D R nL ce sl ws lv (pc + 2) (.long x :: st)) : KJ l G D R nL ce sl ws lv pc (st) := fun H locs ls hP hD hS hl => lv_lload hC.ex hC.cd hdg (lvg_at hl hg) (k H locs ls hP hD hS hl)
theorem k_aload_n (hC : CX G D cc own nL) (pc : Nat) {k0 : Fin 4} (hdg : decode cc pc = .ok (.aload_n k0, 1)) {x : Nat} (hg : lvg lv (k0 : Nat) = some (.ref x)) (k : KJ l G D R nL ce sl ws lv (pc + 1) (.ref x :: st)) : KJ l G D R nL ce sl ws lv pc (st) := fun H locs ls hP hD hS hl => lv_aload_n hC.ex hC.cd hdg rfl (lvg_at hl hg) (k H locs ls hP hD hS hl)
theorem k_aload (hC : CX G D cc own nL) (pc : Nat) {i0 : Nat} (hdg : decode cc pc = .ok (.aload i0, 2)) {x : Nat} (hg : lvg lv i0 = some (.ref x)) (k : KJ l G D R nL ce sl ws lv (pc + 2) (.ref x :: st)) : KJ l G D R nL ce sl ws lv pc (st) := fun H locs ls hP hD hS hl => lv_aload hC.ex hC.cd hdg (lvg_at hl hg) (k H locs ls hP hD hS hl)
theorem k_dload_n (hC : CX G D cc own nL) (pc : Nat) {k0 : Fin 4} (hdg : decode cc pc = .ok (.dload_n k0, 1)) {x : UInt64} (hg : lvg lv (k0 : Nat) = some (.double x)) (k : KJ l G D R nL ce sl ws lv (pc + 1) (.double x :: st)) : KJ l G D R nL ce sl ws lv pc (st) := fun H locs ls hP hD hS hl => lv_dload_n hC.ex hC.cd hdg rfl (lvg_at hl hg) (k H locs ls hP hD hS hl)
theorem k_dload (hC : CX G D cc own nL) (pc : Nat) {i0 : Nat} (hdg : decode cc pc = .ok (.dload i0, 2)) {x : UInt64} (hg : lvg lv i0 = some (.double x)) (k : KJ l G D R nL ce sl ws lv (pc + 2) (.double x :: st)) : KJ l G D R nL ce sl ws lv pc (st) := fun H locs ls hP hD hS hl => lv_dload hC.ex hC.cd hdg (lvg_at hl hg) (k H locs ls hP hD hS hl)
theorem k_istore_n (hC : CX G D cc own nL) (pc : Nat) {k0 : Fin 4} (i1 : Nat) {x : Int32} (lv' : List (Nat × Value)) (hdg : decode cc pc = .ok (.istore_n k0, 1)) (hi : (k0 : Nat) = i1) (hn : i1 < nL) (he : (i1, Value.int x) :: lv.filter (fun q => !(q.1 == i1) && !(q.1 + 1 == i1 && q.2.category == 2)) = lv') (k : KJ l G D R nL ce sl ws lv' (pc + 1) st) : KJ l G D R nL ce sl ws lv pc (.int x :: st) := fun H locs ls hP hD hS hl => lv_istore_n hC.ex hC.cd hdg hi hl hn he (fun ls' hl' => k H locs ls' hP hD hS hl')
theorem k_istore (hC : CX G D cc own nL) (pc : Nat) (i1 : Nat) {x : Int32} (lv' : List (Nat × Value)) (hdg : decode cc pc = .ok (.istore i1, 2)) (hn : i1 < nL) (he : (i1, Value.int x) :: lv.filter (fun q => !(q.1 == i1) && !(q.1 + 1 == i1 && q.2.category == 2)) = lv') (k : KJ l G D R nL ce sl ws lv' (pc + 2) st) : KJ l G D R nL ce sl ws lv pc (.int x :: st) := fun H locs ls hP hD hS hl => lv_istore hC.ex hC.cd hdg hl hn he (fun ls' hl' => k H locs ls' hP hD hS hl')
theorem k_astore_n (hC : CX G D cc own nL) (pc : Nat) {k0 : Fin 4} (i1 : Nat) {x : Nat} (lv' : List (Nat × Value)) (hdg : decode cc pc = .ok (.astore_n k0, 1)) (hi : (k0 : Nat) = i1) (hn : i1 < nL) (he : (i1, Value.ref x) :: lv.filter (fun q => !(q.1 == i1) && !(q.1 + 1 == i1 && q.2.category == 2)) = lv') (k : KJ l G D R nL ce sl ws lv' (pc + 1) st) : KJ l G D R nL ce sl ws lv pc (.ref x :: st) := fun H locs ls hP hD hS hl => lv_astore_n hC.ex hC.cd hdg hi hl hn he (fun ls' hl' => k H locs ls' hP hD hS hl')
theorem k_astore (hC : CX G D cc own nL) (pc : Nat) (i1 : Nat) {x : Nat} (lv' : List (Nat × Value)) (hdg : decode cc pc = .ok (.astore i1, 2)) (hn : i1 < nL) (he : (i1, Value.ref x) :: lv.filter (fun q => !(q.1 == i1) && !(q.1 + 1 == i1 && q.2.category == 2)) = lv') (k : KJ l G D R nL ce sl ws lv' (pc + 2) st) : KJ l G D R nL ce sl ws lv pc (.ref x :: st) := fun H locs ls hP hD hS hl => lv_astore hC.ex hC.cd hdg hl hn he (fun ls' hl' => k H locs ls' hP hD hS hl')
theorem k_lstore_n (hC : CX G D cc own nL) (pc : Nat) {k0 : Fin 4} (i1 : Nat) {x : Int64} (lv' : List (Nat × Value)) (hdg : decode cc pc = .ok (.lstore_n k0, 1)) (hi : (k0 : Nat) = i1) (hn : i1 + 1 < nL) (he : (i1, Value.long x) :: lv.filter (fun q => !(q.1 == i1) && (!(q.1 == i1 + 1) && !(q.1 + 1 == i1 && q.2.category == 2))) = lv') (k : KJ l G D R nL ce sl ws lv' (pc + 1) st) : KJ l G D R nL ce sl ws lv pc (.long x :: st) := fun H locs ls hP hD hS hl => lv_lstore_n hC.ex hC.cd hdg hi hl hn he (fun ls' hl' => k H locs ls' hP hD hS hl')
theorem k_lstore (hC : CX G D cc own nL) (pc : Nat) (i1 : Nat) {x : Int64} (lv' : List (Nat × Value)) (hdg : decode cc pc = .ok (.lstore i1, 2)) (hn : i1 + 1 < nL) (he : (i1, Value.long x) :: lv.filter (fun q => !(q.1 == i1) && (!(q.1 == i1 + 1) && !(q.1 + 1 == i1 && q.2.category == 2))) = lv') (k : KJ l G D R nL ce sl ws lv' (pc + 2) st) : KJ l G D R nL ce sl ws lv pc (.long x :: st) := fun H locs ls hP hD hS hl => lv_lstore hC.ex hC.cd hdg hl hn he (fun ls' hl' => k H locs ls' hP hD hS hl')
theorem k_dstore_n (hC : CX G D cc own nL) (pc : Nat) {k0 : Fin 4} (i1 : Nat) {x : UInt64} (lv' : List (Nat × Value)) (hdg : decode cc pc = .ok (.dstore_n k0, 1)) (hi : (k0 : Nat) = i1) (hn : i1 + 1 < nL) (he : (i1, Value.double x) :: lv.filter (fun q => !(q.1 == i1) && (!(q.1 == i1 + 1) && !(q.1 + 1 == i1 && q.2.category == 2))) = lv') (k : KJ l G D R nL ce sl ws lv' (pc + 1) st) : KJ l G D R nL ce sl ws lv pc (.double x :: st) := fun H locs ls hP hD hS hl => lv_dstore_n hC.ex hC.cd hdg hi hl hn he (fun ls' hl' => k H locs ls' hP hD hS hl')
theorem k_dstore (hC : CX G D cc own nL) (pc : Nat) (i1 : Nat) {x : UInt64} (lv' : List (Nat × Value)) (hdg : decode cc pc = .ok (.dstore i1, 2)) (hn : i1 + 1 < nL) (he : (i1, Value.double x) :: lv.filter (fun q => !(q.1 == i1) && (!(q.1 == i1 + 1) && !(q.1 + 1 == i1 && q.2.category == 2))) = lv') (k : KJ l G D R nL ce sl ws lv' (pc + 2) st) : KJ l G D R nL ce sl ws lv pc (.double x :: st) := fun H locs ls hP hD hS hl => lv_dstore hC.ex hC.cd hdg hl hn he (fun ls' hl' => k H locs ls' hP hD hS hl')
theorem k_iinc (hC : CX G D cc own nL) (pc : Nat) {i1 : Nat} {n : Int} (k0 : Nat) {x : Int32} (v : Int32) (lv' : List (Nat × Value)) (hdg : decode cc pc = .ok (.iinc i1 n, 3)) (hk : lv[k0]? = some (i1, .int x)) (hv : x + Int32.ofInt n = v) (hn : i1 < nL) (he : (i1, Value.int v) :: lv.filter (fun q => !(q.1 == i1) && !(q.1 + 1 == i1 && q.2.category == 2)) = lv') (k : KJ l G D R nL ce sl ws lv' (pc + 3) st) : KJ l G D R nL ce sl ws lv pc st := fun H locs ls hP hD hS hl => lv_iinc hC.ex hC.cd hdg hl hk hv hn he (fun ls' hl' => k H locs ls' hP hD hS hl')
theorem k_iadd (hC : CX G D cc own nL) (pc : Nat) {x y : Int32} (hdg : decode cc pc = .ok (.iadd, 1)) (k : KJ l G D R nL ce sl ws lv (pc + 1) (.int (x + y) :: st)) : KJ l G D R nL ce sl ws lv pc (.int y :: .int x :: st) := fun H locs ls hP hD hS hl => lv_iadd hC.ex hC.cd hdg (k H locs ls hP hD hS hl)
theorem k_isub (hC : CX G D cc own nL) (pc : Nat) {x y : Int32} (hdg : decode cc pc = .ok (.isub, 1)) (k : KJ l G D R nL ce sl ws lv (pc + 1) (.int (x - y) :: st)) : KJ l G D R nL ce sl ws lv pc (.int y :: .int x :: st) := fun H locs ls hP hD hS hl => lv_isub hC.ex hC.cd hdg (k H locs ls hP hD hS hl)
theorem k_imul (hC : CX G D cc own nL) (pc : Nat) {x y : Int32} (hdg : decode cc pc = .ok (.imul, 1)) (k : KJ l G D R nL ce sl ws lv (pc + 1) (.int (x * y) :: st)) : KJ l G D R nL ce sl ws lv pc (.int y :: .int x :: st) := fun H locs ls hP hD hS hl => lv_imul hC.ex hC.cd hdg (k H locs ls hP hD hS hl)
theorem k_iand (hC : CX G D cc own nL) (pc : Nat) {x y : Int32} (hdg : decode cc pc = .ok (.iand, 1)) (k : KJ l G D R nL ce sl ws lv (pc + 1) (.int (x &&& y) :: st)) : KJ l G D R nL ce sl ws lv pc (.int y :: .int x :: st) := fun H locs ls hP hD hS hl => lv_iand hC.ex hC.cd hdg (k H locs ls hP hD hS hl)
theorem k_idiv (hC : CX G D cc own nL) (pc : Nat) {x y : Int32} (hdg : decode cc pc = .ok (.idiv, 1)) (hne : ¬ y = 0) (k : KJ l G D R nL ce sl ws lv (pc + 1) (.int (x / y) :: st)) : KJ l G D R nL ce sl ws lv pc (.int y :: .int x :: st) := fun H locs ls hP hD hS hl => lv_idiv hC.ex hC.cd hdg hne (k H locs ls hP hD hS hl)
theorem k_irem (hC : CX G D cc own nL) (pc : Nat) {x y : Int32} (hdg : decode cc pc = .ok (.irem, 1)) (hne : ¬ y = 0) (k : KJ l G D R nL ce sl ws lv (pc + 1) (.int (x - x / y * y) :: st)) : KJ l G D R nL ce sl ws lv pc (.int y :: .int x :: st) := fun H locs ls hP hD hS hl => lv_irem hC.ex hC.cd hdg hne (k H locs ls hP hD hS hl)
theorem k_ladd (hC : CX G D cc own nL) (pc : Nat) {x y : Int64} (hdg : decode cc pc = .ok (.ladd, 1)) (k : KJ l G D R nL ce sl ws lv (pc + 1) (.long (x + y) :: st)) : KJ l G D R nL ce sl ws lv pc (.long y :: .long x :: st) := fun H locs ls hP hD hS hl => lv_ladd hC.ex hC.cd hdg (k H locs ls hP hD hS hl)
theorem k_lmul (hC : CX G D cc own nL) (pc : Nat) {x y : Int64} (hdg : decode cc pc = .ok (.lmul, 1)) (k : KJ l G D R nL ce sl ws lv (pc + 1) (.long (x * y) :: st)) : KJ l G D R nL ce sl ws lv pc (.long y :: .long x :: st) := fun H locs ls hP hD hS hl => lv_lmul hC.ex hC.cd hdg (k H locs ls hP hD hS hl)
theorem k_lcmp (hC : CX G D cc own nL) (pc : Nat) {x y : Int64} (hdg : decode cc pc = .ok (.lcmp, 1)) (k : KJ l G D R nL ce sl ws lv (pc + 1) (.int (lg_cmp x y) :: st)) : KJ l G D R nL ce sl ws lv pc (.long y :: .long x :: st) := fun H locs ls hP hD hS hl => W.lcmp hC.ex hC.cd hdg (k H locs ls hP hD hS hl)
theorem k_i2l (hC : CX G D cc own nL) (pc : Nat) {x : Int32} (hdg : decode cc pc = .ok (.i2l, 1)) (v : Int64) (hv : x.toInt64 = v) (k : KJ l G D R nL ce sl ws lv (pc + 1) (.long v :: st)) : KJ l G D R nL ce sl ws lv pc (.int x :: st) := fun H locs ls hP hD hS hl => lv_i2l hC.ex hC.cd hdg hv (k H locs ls hP hD hS hl)
theorem k_i2d (hC : CX G D cc own nL) (pc : Nat) {x : Int32} (hdg : decode cc pc = .ok (.i2d, 1)) (k : KJ l G D R nL ce sl ws lv (pc + 1) (.double (FP.i2d x) :: st)) : KJ l G D R nL ce sl ws lv pc (.int x :: st) := fun H locs ls hP hD hS hl => lv_i2d hC.ex hC.cd hdg (k H locs ls hP hD hS hl)
theorem k_dcmp (hC : CX G D cc own nL) (pc : Nat) {x y : UInt64} {op : CmpOp} (hdg : decode cc pc = .ok (.dcmp op, 1)) (k : KJ l G D R nL ce sl ws lv (pc + 1) (.int (Op.cmpValue (FP.dcmp x y) op) :: st)) : KJ l G D R nL ce sl ws lv pc (.double y :: .double x :: st) := fun H locs ls hP hD hS hl => lv_dcmp hC.ex hC.cd hdg (k H locs ls hP hD hS hl)
theorem k_ddiv (hC : CX G D cc own nL) (pc : Nat) {x y : UInt64} (hdg : decode cc pc = .ok (.ddiv, 1)) (hne : vf_n64 (FP.ddiv x y)) (k : KJ l G D R nL ce sl ws lv (pc + 1) (.double (FP.ddiv x y) :: st)) : KJ l G D R nL ce sl ws lv pc (.double y :: .double x :: st) := fun H locs ls hP hD hS hl => lv_ddiv hC.ex hC.cd hdg hne (k H locs ls hP hD hS hl)
theorem k_dconst0 (hC : CX G D cc own nL) (pc : Nat) (hdg : decode cc pc = .ok (.dconst 0, 1)) (k : KJ l G D R nL ce sl ws lv (pc + 1) (.double FP.dconst0 :: st)) : KJ l G D R nL ce sl ws lv pc (st) := fun H locs ls hP hD hS hl => lv_dconst0 hC.ex hC.cd hdg (k H locs ls hP hD hS hl)
theorem k_dup (hC : CX G D cc own nL) (pc : Nat) {va : Value} (hdg : decode cc pc = .ok (.dup, 1)) (hva : va.category = 1) (k : KJ l G D R nL ce sl ws lv (pc + 1) (va :: va :: st)) : KJ l G D R nL ce sl ws lv pc (va :: st) := fun H locs ls hP hD hS hl => lv_dup hC.ex hC.cd hdg hva (k H locs ls hP hD hS hl)
theorem k_pop (hC : CX G D cc own nL) (pc : Nat) {va : Value} (hdg : decode cc pc = .ok (.pop, 1)) (hva : va.category = 1) (k : KJ l G D R nL ce sl ws lv (pc + 1) (st)) : KJ l G D R nL ce sl ws lv pc (va :: st) := fun H locs ls hP hD hS hl => lv_pop hC.ex hC.cd hdg hva (k H locs ls hP hD hS hl)
theorem k_dup2 (hC : CX G D cc own nL) (pc : Nat) {va vb : Value} (hdg : decode cc pc = .ok (.dup2, 1)) (hva : va.category = 1) (hvb : vb.category = 1) (k : KJ l G D R nL ce sl ws lv (pc + 1) (va :: vb :: va :: vb :: st)) : KJ l G D R nL ce sl ws lv pc (va :: vb :: st) := fun H locs ls hP hD hS hl => lv_dup2_11 hC.ex hC.cd hdg hva hvb (k H locs ls hP hD hS hl)
theorem k_ldc (hC : CX G D cc own nL) (pc : Nat) {ix : Nat} (v : Int32) (hdg : decode cc pc = .ok (.ldc ix, 2)) (hw : Cond.constant own ix v ∈ wsL_law) (k : KJ l G D R nL ce sl ws lv (pc + 2) (.int v :: st)) : KJ l G D R nL ce sl ws lv pc st := fun H locs ls hP hD hS hl => lv_ldc hC.ex hC.cd hC.on (hC.wd _ hw) hdg (k H locs ls hP hD hS hl)
theorem k_ldc2 (hC : CX G D cc own nL) (pc : Nat) {ix : Nat} (v : Int64) (hdg : decode cc pc = .ok (.ldc2_w ix, 3)) (hw : Cond.constantLong own ix v ∈ wsL_law) (k : KJ l G D R nL ce sl ws lv (pc + 3) (.long v :: st)) : KJ l G D R nL ce sl ws lv pc st := fun H locs ls hP hD hS hl => lv_ldc2 hC.ex hC.cd hC.on (hC.wd _ hw) hdg (k H locs ls hP hD hS hl)
theorem k_goto (hC : CX G D cc own nL) (pc : Nat) {off : Int} (tgt : Nat) (hdg : decode cc pc = .ok (.goto off, 3)) (ht : (pc : Int) + off = (tgt : Int)) (k : KJ l G D R nL ce sl ws lv tgt st) : KJ l G D R nL ce sl ws lv pc st := fun H locs ls hP hD hS hl => lv_goto hC.ex hC.cd hdg ht (k H locs ls hP hD hS hl)
theorem k_if_eq (hC : CX G D cc own nL) (pc : Nat) {x : Int32} {off : Int} (tgt : Nat) (hdg : decode cc pc = .ok (.ifCond .eq off, 3)) (ht : (pc : Int) + off = (tgt : Int)) (kt : x = 0 → KJ l G D R nL ce sl ws lv tgt st) (kf : ¬ x = 0 → KJ l G D R nL ce sl ws lv (pc + 3) st) : KJ l G D R nL ce sl ws lv pc (.int x :: st) := fun H locs ls hP hD hS hl => lv_if_eq hC.ex hC.cd hdg ht (fun h => kt h H locs ls hP hD hS hl) (fun h => kf h H locs ls hP hD hS hl)
theorem k_icmp_eq (hC : CX G D cc own nL) (pc : Nat) {x y : Int32} {off : Int} (tgt : Nat) (hdg : decode cc pc = .ok (.if_icmp .eq off, 3)) (ht : (pc : Int) + off = (tgt : Int)) (kt : x = y → KJ l G D R nL ce sl ws lv tgt st) (kf : ¬ x = y → KJ l G D R nL ce sl ws lv (pc + 3) st) : KJ l G D R nL ce sl ws lv pc (.int y :: .int x :: st) := fun H locs ls hP hD hS hl => lv_icmp_eq hC.ex hC.cd hdg ht (fun h => kt h H locs ls hP hD hS hl) (fun h => kf h H locs ls hP hD hS hl)
theorem k_if_ne (hC : CX G D cc own nL) (pc : Nat) {x : Int32} {off : Int} (tgt : Nat) (hdg : decode cc pc = .ok (.ifCond .ne off, 3)) (ht : (pc : Int) + off = (tgt : Int)) (kt : ¬ x = 0 → KJ l G D R nL ce sl ws lv tgt st) (kf : x = 0 → KJ l G D R nL ce sl ws lv (pc + 3) st) : KJ l G D R nL ce sl ws lv pc (.int x :: st) := fun H locs ls hP hD hS hl => lv_if_ne hC.ex hC.cd hdg ht (fun h => kt h H locs ls hP hD hS hl) (fun h => kf h H locs ls hP hD hS hl)
theorem k_icmp_ne (hC : CX G D cc own nL) (pc : Nat) {x y : Int32} {off : Int} (tgt : Nat) (hdg : decode cc pc = .ok (.if_icmp .ne off, 3)) (ht : (pc : Int) + off = (tgt : Int)) (kt : ¬ x = y → KJ l G D R nL ce sl ws lv tgt st) (kf : x = y → KJ l G D R nL ce sl ws lv (pc + 3) st) : KJ l G D R nL ce sl ws lv pc (.int y :: .int x :: st) := fun H locs ls hP hD hS hl => lv_icmp_ne hC.ex hC.cd hdg ht (fun h => kt h H locs ls hP hD hS hl) (fun h => kf h H locs ls hP hD hS hl)
theorem k_if_lt (hC : CX G D cc own nL) (pc : Nat) {x : Int32} {off : Int} (tgt : Nat) (hdg : decode cc pc = .ok (.ifCond .lt off, 3)) (ht : (pc : Int) + off = (tgt : Int)) (kt : x < 0 → KJ l G D R nL ce sl ws lv tgt st) (kf : ¬ x < 0 → KJ l G D R nL ce sl ws lv (pc + 3) st) : KJ l G D R nL ce sl ws lv pc (.int x :: st) := fun H locs ls hP hD hS hl => lv_if_lt hC.ex hC.cd hdg ht (fun h => kt h H locs ls hP hD hS hl) (fun h => kf h H locs ls hP hD hS hl)
theorem k_icmp_lt (hC : CX G D cc own nL) (pc : Nat) {x y : Int32} {off : Int} (tgt : Nat) (hdg : decode cc pc = .ok (.if_icmp .lt off, 3)) (ht : (pc : Int) + off = (tgt : Int)) (kt : x < y → KJ l G D R nL ce sl ws lv tgt st) (kf : ¬ x < y → KJ l G D R nL ce sl ws lv (pc + 3) st) : KJ l G D R nL ce sl ws lv pc (.int y :: .int x :: st) := fun H locs ls hP hD hS hl => lv_icmp_lt hC.ex hC.cd hdg ht (fun h => kt h H locs ls hP hD hS hl) (fun h => kf h H locs ls hP hD hS hl)
theorem k_if_ge (hC : CX G D cc own nL) (pc : Nat) {x : Int32} {off : Int} (tgt : Nat) (hdg : decode cc pc = .ok (.ifCond .ge off, 3)) (ht : (pc : Int) + off = (tgt : Int)) (kt : 0 ≤ x → KJ l G D R nL ce sl ws lv tgt st) (kf : ¬ 0 ≤ x → KJ l G D R nL ce sl ws lv (pc + 3) st) : KJ l G D R nL ce sl ws lv pc (.int x :: st) := fun H locs ls hP hD hS hl => lv_if_ge hC.ex hC.cd hdg ht (fun h => kt h H locs ls hP hD hS hl) (fun h => kf h H locs ls hP hD hS hl)
theorem k_icmp_ge (hC : CX G D cc own nL) (pc : Nat) {x y : Int32} {off : Int} (tgt : Nat) (hdg : decode cc pc = .ok (.if_icmp .ge off, 3)) (ht : (pc : Int) + off = (tgt : Int)) (kt : y ≤ x → KJ l G D R nL ce sl ws lv tgt st) (kf : ¬ y ≤ x → KJ l G D R nL ce sl ws lv (pc + 3) st) : KJ l G D R nL ce sl ws lv pc (.int y :: .int x :: st) := fun H locs ls hP hD hS hl => lv_icmp_ge hC.ex hC.cd hdg ht (fun h => kt h H locs ls hP hD hS hl) (fun h => kf h H locs ls hP hD hS hl)
theorem k_if_gt (hC : CX G D cc own nL) (pc : Nat) {x : Int32} {off : Int} (tgt : Nat) (hdg : decode cc pc = .ok (.ifCond .gt off, 3)) (ht : (pc : Int) + off = (tgt : Int)) (kt : 0 < x → KJ l G D R nL ce sl ws lv tgt st) (kf : ¬ 0 < x → KJ l G D R nL ce sl ws lv (pc + 3) st) : KJ l G D R nL ce sl ws lv pc (.int x :: st) := fun H locs ls hP hD hS hl => lv_if_gt hC.ex hC.cd hdg ht (fun h => kt h H locs ls hP hD hS hl) (fun h => kf h H locs ls hP hD hS hl)
theorem k_icmp_gt (hC : CX G D cc own nL) (pc : Nat) {x y : Int32} {off : Int} (tgt : Nat) (hdg : decode cc pc = .ok (.if_icmp .gt off, 3)) (ht : (pc : Int) + off = (tgt : Int)) (kt : y < x → KJ l G D R nL ce sl ws lv tgt st) (kf : ¬ y < x → KJ l G D R nL ce sl ws lv (pc + 3) st) : KJ l G D R nL ce sl ws lv pc (.int y :: .int x :: st) := fun H locs ls hP hD hS hl => lv_icmp_gt hC.ex hC.cd hdg ht (fun h => kt h H locs ls hP hD hS hl) (fun h => kf h H locs ls hP hD hS hl)
theorem k_if_le (hC : CX G D cc own nL) (pc : Nat) {x : Int32} {off : Int} (tgt : Nat) (hdg : decode cc pc = .ok (.ifCond .le off, 3)) (ht : (pc : Int) + off = (tgt : Int)) (kt : x ≤ 0 → KJ l G D R nL ce sl ws lv tgt st) (kf : ¬ x ≤ 0 → KJ l G D R nL ce sl ws lv (pc + 3) st) : KJ l G D R nL ce sl ws lv pc (.int x :: st) := fun H locs ls hP hD hS hl => lv_if_le hC.ex hC.cd hdg ht (fun h => kt h H locs ls hP hD hS hl) (fun h => kf h H locs ls hP hD hS hl)
theorem k_icmp_le (hC : CX G D cc own nL) (pc : Nat) {x y : Int32} {off : Int} (tgt : Nat) (hdg : decode cc pc = .ok (.if_icmp .le off, 3)) (ht : (pc : Int) + off = (tgt : Int)) (kt : x ≤ y → KJ l G D R nL ce sl ws lv tgt st) (kf : ¬ x ≤ y → KJ l G D R nL ce sl ws lv (pc + 3) st) : KJ l G D R nL ce sl ws lv pc (.int y :: .int x :: st) := fun H locs ls hP hD hS hl => lv_icmp_le hC.ex hC.cd hdg ht (fun h => kt h H locs ls hP hD hS hl) (fun h => kf h H locs ls hP hD hS hl)
theorem k_tableIn (hC : CX G D cc own nL) (pc : Nat) {dflt lo hi : Int} {offs : Array Int} {len : Nat} {x : Int32} {off : Int} (tgt : Nat) (hdg : decode cc pc = .ok (.tableswitch dflt lo hi offs, len)) (h1 : ¬ x.toInt < lo) (h2 : ¬ hi < x.toInt) (ho : offs[(x.toInt - lo).toNat]? = some off) (ht : (pc : Int) + off = (tgt : Int)) (k : KJ l G D R nL ce sl ws lv tgt st) : KJ l G D R nL ce sl ws lv pc (.int x :: st) := fun H locs ls hP hD hS hl => lv_tableIn hC.ex hC.cd hdg h1 h2 ho ht (k H locs ls hP hD hS hl)
theorem k_tableOut (hC : CX G D cc own nL) (pc : Nat) {dflt lo hi : Int} {offs : Array Int} {len : Nat} {x : Int32} (tgt : Nat) (hdg : decode cc pc = .ok (.tableswitch dflt lo hi offs, len)) (h : x.toInt < lo ∨ hi < x.toInt) (ht : (pc : Int) + dflt = (tgt : Int)) (k : KJ l G D R nL ce sl ws lv tgt st) : KJ l G D R nL ce sl ws lv pc (.int x :: st) := fun H locs ls hP hD hS hl => lv_tableOut hC.ex hC.cd hdg h ht (k H locs ls hP hD hS hl)
/-- fields -/
theorem k_getf (hC : CX G D cc own nL) (pc : Nat) {ix ci N a : Nat} {C : String} {T : u_T} (q0 : Nat) {fs : List Value} (k : Nat) {v : Value} (hdg : decode cc pc = .ok (.getfield ix, 3)) (he : ws[q0]? = some (a, .inr (ci, fs))) (hc : vwCl[ci]? = some (C, T, N)) (hin : ∀ w ∈ u_ws C T N, w ∈ wsL_law) (hk : k < N) (hw : Cond.fieldLink own ix (T k).1 (T k).2.1 (T k).2.2.1 ∈ wsL_law) (hv : fs[k]? = some v) (kk : KJ l G D R nL ce sl ws lv (pc + 3) (v :: st)) : KJ l G D R nL ce sl ws lv pc (.ref a :: st) := fun H locs ls hP hD hS hl => va_get hC.ex hC.cd hC.wd hin hC.on hC.kk hP q0 he hc k hk (hC.wd _ hw) (fun _ h => h) hv hdg (kk H locs ls hP hD hS hl)
theorem k_getfN (hC : CX G D cc own nL) (pc : Nat) {ix ci N a : Nat} {C host : String} {T : u_T} (q0 : Nat) {fs : List Value} (k : Nat) {v : Value} (hdg : decode cc pc = .ok (.getfield ix, 3)) (he : ws[q0]? = some (a, .inr (ci, fs))) (hc : vwCl[ci]? = some (C, T, N)) (hin : ∀ w ∈ u_ws C T N, w ∈ wsL_law) (hk : k < N) (hw : va_Nw (Cond.fieldLinkNest own ix (T k).1 (T k).2.1 (T k).2.2.1 host) (ks G)) (hv : fs[k]? = some v) (kk : KJ l G D R nL ce sl ws lv (pc + 3) (v :: st)) : KJ l G D R nL ce sl ws lv pc (.ref a :: st) := fun H locs ls hP hD hS hl => va_getN hC.ex hC.cd hC.wd hin hC.on hC.kk hP q0 he hc k hk (va_Nw.use rfl hw) (fun _ h => h) hv hdg (kk H locs ls hP hD hS hl)
theorem k_putf (hC : CX G D cc own nL) (pc : Nat) {ix ci N a : Nat} {C : String} {T : u_T} {ty0 : Nat → FieldType} (q0 : Nat) {fs : List Value} (k : Nat) {v : Value} (ws' : va_W) (hdg : decode cc pc = .ok (.putfield ix, 3)) (he : ws[q0]? = some (a, .inr (ci, fs))) (hc : vwCl[ci]? = some (C, T, N)) (hin : ∀ w ∈ u_ws C T N, w ∈ wsL_law) (hty : ∀ k, k < N → parseFieldDescriptor (T k).2.2.1 = some (ty0 k)) (hnm : ∀ a, a < N → ∀ b, b < N → a ≠ b → (T a).2.1 ≠ (T b).2.1) (hk : k < N) (hw : Cond.fieldLink own ix (T k).1 (T k).2.1 (T k).2.2.1 ∈ wsL_law) (hfin : (T k).2.2.2 = false) (hn : narrow (ty0 k) v = v) (hfit : fits (ty0 k) v = true) (hl0 : k < fs.length) (hws : ws.set q0 (a, .inr (ci, fs.set k v)) = ws') (kk : KJ l G D R nL ce sl ws' lv (pc + 3) st) : KJ l G D R nL ce sl ws lv pc (v :: .ref a :: st) := fun H locs ls hP hD hS hl => va_put hC.ex hC.cd hC.wd hin ty0 hty hnm hC.on hC.kk hP hD hS q0 he hc k hk (hC.wd _ hw) (fun _ h => h) hfin (hty k hk) hn hfit hl0 hdg (fun H1 locs1 hP1 hD1 hS1 => kk H1 locs1 ls (hws ▸ hP1) (hws ▸ hD1) hS1 hl)
theorem k_putfN (hC : CX G D cc own nL) (pc : Nat) {ix ci N a : Nat} {C host : String} {T : u_T} {ty0 : Nat → FieldType} (q0 : Nat) {fs : List Value} (k : Nat) {v : Value} (ws' : va_W) (hdg : decode cc pc = .ok (.putfield ix, 3)) (he : ws[q0]? = some (a, .inr (ci, fs))) (hc : vwCl[ci]? = some (C, T, N)) (hin : ∀ w ∈ u_ws C T N, w ∈ wsL_law) (hty : ∀ k, k < N → parseFieldDescriptor (T k).2.2.1 = some (ty0 k)) (hnm : ∀ a, a < N → ∀ b, b < N → a ≠ b → (T a).2.1 ≠ (T b).2.1) (hk : k < N) (hw : va_Nw (Cond.fieldLinkNest own ix (T k).1 (T k).2.1 (T k).2.2.1 host) (ks G)) (hfin : (T k).2.2.2 = false) (hn : narrow (ty0 k) v = v) (hfit : fits (ty0 k) v = true) (hl0 : k < fs.length) (hws : ws.set q0 (a, .inr (ci, fs.set k v)) = ws') (kk : KJ l G D R nL ce sl ws' lv (pc + 3) st) : KJ l G D R nL ce sl ws lv pc (v :: .ref a :: st) := fun H locs ls hP hD hS hl => va_putN hC.ex hC.cd hC.wd hin ty0 hty hnm hC.on hC.kk hP hD hS q0 he hc k hk (va_Nw.use rfl hw) (fun _ h => h) hfin (hty k hk) hn hfit hl0 hdg (fun H1 locs1 hP1 hD1 hS1 => kk H1 locs1 ls (hws ▸ hP1) (hws ▸ hD1) hS1 hl)
theorem k_putfF (hC : CX G D cc own nL) (pc : Nat) {ix ci N a : Nat} {C : String} {T : u_T} {ty0 : Nat → FieldType} (q0 : Nat) {fs : List Value} (k : Nat) {v : Value} (ws' : va_W) (hdg : decode cc pc = .ok (.putfield ix, 3)) (he : ws[q0]? = some (a, .inr (ci, fs))) (hc : vwCl[ci]? = some (C, T, N)) (hin : ∀ w ∈ u_ws C T N, w ∈ wsL_law) (hty : ∀ k, k < N → parseFieldDescriptor (T k).2.2.1 = some (ty0 k)) (hnm : ∀ a, a < N → ∀ b, b < N → a ≠ b → (T a).2.1 ≠ (T b).2.1) (hk : k < N) (hw : Cond.fieldLink own ix (T k).1 (T k).2.1 (T k).2.2.1 ∈ wsL_law) (hfin : (T k).2.2.2 = true) (hinit : (kme G).name = "<init>") (hdecl : (T k).1 = own) (hn : narrow (ty0 k) v = v) (hfit : fits (ty0 k) v = true) (hl0 : k < fs.length) (hws : ws.set q0 (a, .inr (ci, fs.set k v)) = ws') (kk : KJ l G D R nL ce sl ws' lv (pc + 3) st) : KJ l G D R nL ce sl ws lv pc (v :: .ref a :: st) := fun H locs ls hP hD hS hl => va_putF hC.ex hC.cd hC.wd hin ty0 hty hnm hC.on hC.kk hP hD hS q0 he hc k hk (hC.wd _ hw) (fun _ h => h) hfin hinit hdecl (hty k hk) hn hfit hl0 hdg (fun H1 locs1 hP1 hD1 hS1 => kk H1 locs1 ls (hws ▸ hP1) (hws ▸ hD1) hS1 hl)
/-- arrays -/
theorem k_iald (hC : CX G D cc own nL) (pc : Nat) {a n : Nat} {f : Nat → Int32} {i : Int32} (q0 : Nat) (hdg : decode cc pc = .ok (.iaload, 1)) (ha : ws[q0]? = some (a, .inl (D.1 20, n, .inl f))) (hi : vp_in i n) (kk : KJ l G D R nL ce sl ws lv (pc + 1) (.int (f i.toNatClampNeg) :: st)) : KJ l G D R nL ce sl ws lv pc (.int i :: .ref a :: st) := fun H locs ls hP hD hS hl => va_iald hC.ex hC.cd hC.kk hP q0 0 ha rfl hi hdg (kk H locs ls hP hD hS hl)
theorem k_iast (hC : CX G D cc own nL) (pc : Nat) {a n : Nat} {f : Nat → Int32} {i x : Int32} (q0 : Nat) (ws' : va_W) (hdg : decode cc pc = .ok (.iastore, 1)) (ha : ws[q0]? = some (a, .inl (D.1 20, n, .inl f))) (hi : vp_in i n) (hws : ws.set q0 (a, .inl (D.1 20, n, .inl (upd f i.toNatClampNeg x))) = ws') (kk : KJ l G D R nL ce sl ws' lv (pc + 1) st) : KJ l G D R nL ce sl ws lv pc (.int x :: .int i :: .ref a :: st) := fun H locs ls hP hD hS hl => va_iast hC.ex hC.cd hC.kk hP hD hS q0 0 ha rfl hi hdg (fun H1 locs1 hP1 hD1 hS1 => kk H1 locs1 ls (hws ▸ hP1) (hws ▸ hD1) hS1 hl)
theorem k_alen (hC : CX G D cc own nL) (pc : Nat) {a : Nat} {x : vp_A} (q0 t0 : Nat) {cA : ClassId} {ty : FieldType} (v : Int32) (hdg : decode cc pc = .ok (.arraylength, 1)) (ha : ws[q0]? = some (a, .inl (cA, x))) (ht : (kty D)[t0]? = some (cA, ty)) (hv : Int32.ofNat x.1 = v) (kk : KJ l G D R nL ce sl ws lv (pc + 1) (.int v :: st)) : KJ l G D R nL ce sl ws lv pc (.ref a :: st) := fun H locs ls hP hD hS hl => va_alen hC.ex hC.cd hC.kk hP q0 t0 ha ht hv hdg (kk H locs ls hP hD hS hl)
/-- Math.max, Math.min, System.arraycopy -/
theorem k_max (hC : CX G D cc own nL) (pc : Nat) {ix : Nat} {x y : Int32} (hdg : decode cc pc = .ok (.invokestatic ix, 3)) (hw : Cond.methodLink own ix Lib.Math.max.name ∈ wsL_law) (hw2 : Cond.static Lib.Math.max.name ∈ wsL_law) (hw3 : Cond.initialized "java/lang/Math" ∈ wsL_law) (hw4 : Cond.code Lib.Math.max.name Lib.Math.max.code 2 (some .int) ∈ wsL_law) (hR : 1 ≤ R.frames ∧ (st.map fun v => v.category).sum + 13 ≤ R.locals ∧ ce ≤ R.cells ∧ sl ≤ R.slots) (kk : KJ l G D R nL ce sl ws lv (pc + 3) (.int (if x < y then y else x) :: st)) : KJ l G D R nL ce sl ws lv pc (.int y :: .int x :: st) := fun H locs ls hP hD hS hl => va_mmax hC.ex hC.cd (hC.ml.trans hl.1.symm) hC.on (hC.wd _ hw) (hC.wd _ hw2) (hC.wd _ hw3) (hC.wd _ hw4) hR.1 hR.2.1 hR.2.2.1 hR.2.2.2 hdg (kk H locs ls hP hD hS hl)
theorem k_min (hC : CX G D cc own nL) (pc : Nat) {ix : Nat} {x y : Int32} (hdg : decode cc pc = .ok (.invokestatic ix, 3)) (hw : Cond.methodLink own ix Lib.Math.min.name ∈ wsL_law) (hw2 : Cond.static Lib.Math.min.name ∈ wsL_law) (hw3 : Cond.initialized "java/lang/Math" ∈ wsL_law) (hw4 : Cond.code Lib.Math.min.name Lib.Math.min.code 2 (some .int) ∈ wsL_law) (hR : 1 ≤ R.frames ∧ (st.map fun v => v.category).sum + 13 ≤ R.locals ∧ ce ≤ R.cells ∧ sl ≤ R.slots) (kk : KJ l G D R nL ce sl ws lv (pc + 3) (.int (if y < x then y else x) :: st)) : KJ l G D R nL ce sl ws lv pc (.int y :: .int x :: st) := fun H locs ls hP hD hS hl => va_mmin hC.ex hC.cd (hC.ml.trans hl.1.symm) hC.on (hC.wd _ hw) (hC.wd _ hw2) (hC.wd _ hw3) (hC.wd _ hw4) hR.1 hR.2.1 hR.2.2.1 hR.2.2.2 hdg (kk H locs ls hP hD hS hl)
end KS

/-! CONTRACTS: from a world w0 (a list of cells) to a world w1 u, with an answer v of which post v u holds -/
def MPre (D : va_G) (w0 : va_W) (av : List Value) (sz : Nat) : Array Value → State → Prop := va_Pc av (fun U => U.heap.size = sz ∧ va_P D vwCl w0 U.heap ∧ KT D U ∧ va_D (fun _ => True) w0)
def MPost {S : Type} (D : va_G) (w0 : va_W) (sz : Nat) (post : Option Value → S → Prop) (w1 : S → va_W) : Array Value → State → Outcome → State → Prop := fun _ st oc t => (∃ (v : Option Value) (u : S), oc = .returned v ∧ post v u ∧ va_P D vwCl (w1 u) t.heap ∧ va_D (va_A w0 sz) (w1 u)) ∧ va_F (va_A w0 sz) st t
def MU {S : Type} (l : Launch) (y : MethodName) (cc : ByteArray) (maxL : Nat) (ret : Option FieldType) (fr lo : Nat) (D : va_G) (av : List Value) (w0 : va_W) (post : Option Value → S → Prop) (w1 : S → va_W) (mc ms : Nat) : Prop :=
  ∀ sz : Nat, Met l y (.code y cc maxL ret :: wsL_law) ({ frames := fr, cells := mc, slots := ms, locals := lo } : Room) (MPre D w0 av sz) (MPost D w0 sz post w1) mc ms (va_A w0 sz)
def EX {S : Type} (G : KX) (D : va_G) (y : MethodName) (w0 : va_W) (post : Option Value → S → Prop) (w1 : S → va_W) (ret : Option FieldType) (mc ms : Nat) : Prop :=
  kA G = va_A w0 (ks G).heap.size ∧ kQ G = MQ (kb G) (MPost D w0 (ks G).heap.size post w1) (ka G) (ks G) mc ms (va_A w0 (ks G).heap.size) ∧ (kme G).sig.returnType = ret ∧ (kme G).locks = false ∧ (kme G).name = y.name
theorem wsL_good : ∀ w ∈ wsL_law, goodWord w = true := fun w h => List.all_eq_true.mp (show wsL_law.all goodWord = true by decide +kernel) w h
theorem gAll {w0 : Cond} (h : w0 ∈ wsL_law) : GoodIn wsL_law (w0 :: wsL_law) := fun w hw => (List.mem_cons.mp hw).elim (fun e => by subst e; exact ⟨h, good_of_word (wsL_good _ h)⟩) (fun h2 => ⟨h2, good_of_word (wsL_good _ h2)⟩)
section MUs
variable {S : Type} {l : Launch} {y : MethodName} {cc : ByteArray} {maxL : Nat} {ret : Option FieldType} {fr lo : Nat} {D : va_G} {av : List Value} {w0 : va_W} {post : Option Value → S → Prop} {w1 : S → va_W} {mc ms : Nat}
theorem MPre.blind {sz : Nat} : FrameBlind (MPre D w0 av sz) := fun _ U _ _ q => ⟨q.1, q.2.1, q.2.2.1, KT.same (u := U) rfl q.2.2.2.1, q.2.2.2.2⟩
theorem MU.enter (hy : plainName y.cls = true) (lv0 : List (Nat × Value)) (hlv : lv_args 0 av = lv0) (hle : (lg_sl av).length ≤ maxL)
    (h : ∀ G : KX, CX G D cc y.cls maxL → EX G D y w0 post w1 ret mc ms → KJ l G D ({ frames := fr, cells := mc, slots := ms, locals := lo } : Room) maxL 0 0 w0 lv0 0 []) : MU l y cc maxL ret fr lo D av w0 post w1 mc ms := by
  intro sz
  refine Met.ofW (cc := cc) (maxL := maxL) (ret := ret) hy rfl ?_
  intro p e s m args below meth c s₁ B hml hv
  obtain ⟨rfl, hsz, hP, hK, hD0⟩ := hv
  subst hsz
  have hts := atoms_spec (ws := .code y cc maxL ret :: wsL_law) B.pre
  have hts : ∀ w ∈ wsL_law, w.before av.toArray s = true := fun w h => hts w (List.mem_cons_of_mem _ h)
  have hown : s.vm.findClass y.cls = some m.cls := findClass_of_methodNamed B.named
  have hl := lv_entry av (n := maxL) hle
  rw [hlv] at hl
  rw [lg_entry_eq]
  generalize (lg_sl av ++ List.replicate (maxL - (lg_sl av).length) Slot.unset).toArray = ls at hl ⊢
  exact h (p, e, s, m, av.toArray, below, meth, c, _, va_A w0 s.heap.size) ⟨B.exec, B.bytes, hml, hown, hts, hK, fun q hq => Or.inr hq⟩ ⟨rfl, rfl, B.returns, B.notSynchronized, (name_of_methodNamed B.named B.method).1⟩ s.heap [] ls hP hD0.self va_S.rf hl
variable {G : KX} {R : Room} {own : String} {nL ce sl : Nat} {ws : va_W} {lv : List (Nat × Value)} {st : List Value}
theorem EX.end_ (hE : EX G D y w0 post w1 ret mc ms) {v : Option Value} {u : S} (hp : post v u) {H : Heap} {locs : List Loc} (hP : va_P D vwCl ws H) (hD : va_D (kA G) ws) (hS : va_S (kA G) (ks G).heap H locs) (hw : w1 u = ws) : ∀ t : State, t.heap = H → (ks G).WarmedH t.vm → MPost D w0 (ks G).heap.size post w1 (ka G) (ks G) (.returned v) t := by
  intro t ht _
  have hA := hE.1
  subst hw
  refine ⟨⟨v, u, rfl, hp, by rw [ht]; exact hP, by rw [← hA]; exact hD⟩, by rw [← hA]; exact hS.F ht⟩
theorem EX.lc (hE : EX G D y w0 post w1 ret mc ms) {H : Heap} {locs : List Loc} (hS : va_S (kA G) (ks G).heap H locs) : ∀ q ∈ locs, va_A w0 (ks G).heap.size q.base := by
  rw [← hE.1]; exact hS.2.2
theorem k_iret {ty : FieldType} (hC : CX G D cc own nL) (hE : EX G D y w0 post w1 (some ty) mc ms) (pc : Nat) {v : Int32} (u : S) (hdg : decode cc pc = .ok (.ireturn, 1)) (hn : narrow ty (.int v) = .int v) (hp : post (some (.int v)) u) (hw : w1 u = ws) (hf : ce ≤ mc ∧ sl ≤ ms) : KJ l G D R nL ce sl ws lv pc [.int v] := fun H locs ls hP hD hS hl => by
  rw [hE.2.1]
  exact W.widen hf.1 hf.2 (W.zret hC.ex hC.cd hE.2.2.1 hn (hE.end_ hp hP hD hS hw) (hE.lc hS) hdg hE.2.2.2.1)
theorem k_lret (hC : CX G D cc own nL) (hE : EX G D y w0 post w1 (some .long) mc ms) (pc : Nat) {v : Int64} (u : S) (hdg : decode cc pc = .ok (.lreturn, 1)) (hp : post (some (.long v)) u) (hw : w1 u = ws) (hf : ce ≤ mc ∧ sl ≤ ms) : KJ l G D R nL ce sl ws lv pc [.long v] := fun H locs ls hP hD hS hl => by
  rw [hE.2.1]
  exact W.widen hf.1 hf.2 (W.lret hC.ex hC.cd hE.2.2.1 (hE.end_ hp hP hD hS hw) (hE.lc hS) hdg hE.2.2.2.1)
theorem k_dret (hC : CX G D cc own nL) (hE : EX G D y w0 post w1 (some .double) mc ms) (pc : Nat) {v : UInt64} (u : S) (hdg : decode cc pc = .ok (.dreturn, 1)) (hp : post (some (.double v)) u) (hw : w1 u = ws) (hf : ce ≤ mc ∧ sl ≤ ms) : KJ l G D R nL ce sl ws lv pc [.double v] := fun H locs ls hP hD hS hl => by
  rw [hE.2.1]
  exact W.widen hf.1 hf.2 (W.dret hC.ex hC.cd hE.2.2.1 (hE.end_ hp hP hD hS hw) (hE.lc hS) hdg hE.2.2.2.1)
theorem k_aret {rt : FieldType} (hC : CX G D cc own nL) (hE : EX G D y w0 post w1 (some rt) mc ms) (pc : Nat) {a : Nat} (u : S) (hdg : decode cc pc = .ok (.areturn, 1)) (hrt : (∃ n, rt = .object n) ∨ ∃ t, rt = .array t) (hp : post (some (.ref a)) u) (hw : w1 u = ws) (hf : ce ≤ mc ∧ sl ≤ ms) : KJ l G D R nL ce sl ws lv pc [.ref a] := fun H locs ls hP hD hS hl => by
  rw [hE.2.1]
  exact W.widen hf.1 hf.2 (W.aret hC.ex hC.cd hE.2.2.1 hrt (Or.inr ⟨a, rfl⟩) (hE.end_ hp hP hD hS hw) (hE.lc hS) hdg hE.2.2.2.1)
theorem k_vret (hC : CX G D cc own nL) (hE : EX G D y w0 post w1 none mc ms) (pc : Nat) (u : S) (hdg : decode cc pc = .ok (.return_, 1)) (hp : post none u) (hw : w1 u = ws) (hf : ce ≤ mc ∧ sl ≤ ms) : KJ l G D R nL ce sl ws lv pc [] := fun H locs ls hP hD hS hl => by
  rw [hE.2.1]
  exact W.widen hf.1 hf.2 (W.vret hC.ex hC.cd hE.2.2.1 (hE.end_ hp hP hD hS hw) (hE.lc hS) hdg hE.2.2.2.1)
end MUs
/-! CALLS -/
/-- cells are replaced by their places; what comes in addition goes to the end -/
def putL : va_W → List Nat → va_W → va_W
  | ws, [], w1 => ws ++ w1
  | ws, _ :: _, [] => ws
  | ws, i :: is, c :: w1 => putL (ws.set i c) is w1
theorem putL_get : ∀ (is : List Nat) (ws w1 : va_W) (k : Nat) (q : Nat × va_E), va_nd is = true → is.length ≤ w1.length → (∀ i ∈ is, i < ws.length) → (putL ws is w1)[k]? = some q →
    (∃ j : Nat, is[j]? = some k ∧ w1[j]? = some q) ∨ (k ∉ is ∧ k < ws.length ∧ ws[k]? = some q) ∨ (∃ j : Nat, k = ws.length + j ∧ w1[is.length + j]? = some q)
  | [], ws, w1, k, q, _, _, _, h => by
    simp only [putL] at h
    by_cases hk : k < ws.length
    · rw [List.getElem?_append_left hk] at h
      exact Or.inr (Or.inl ⟨List.not_mem_nil, hk, h⟩)
    · rw [List.getElem?_append_right (by omega)] at h
      exact Or.inr (Or.inr ⟨k - ws.length, by omega, by simpa using h⟩)
  | i :: is, ws, [], k, q, _, hl, _, h => by simp at hl
  | i :: is, ws, c :: w1, k, q, hn, hl, hi, h => by
    simp only [va_nd, Bool.and_eq_true, decide_eq_true_eq] at hn
    have hii : i < ws.length := hi i List.mem_cons_self
    simp only [putL] at h
    rcases putL_get is (ws.set i c) w1 k q hn.2 (by simpa using hl) (fun j hj => by rw [List.length_set]; exact hi j (List.mem_cons_of_mem _ hj)) h with ⟨j, h1, h2⟩ | ⟨h1, h2, h3⟩ | ⟨j, h1, h2⟩
    · exact Or.inl ⟨j + 1, by simpa using h1, by simpa using h2⟩
    · rw [List.length_set] at h2
      by_cases hk : k = i
      · subst hk
        rw [List.getElem?_set_self hii] at h3
        exact Or.inl ⟨0, rfl, h3⟩
      · rw [List.getElem?_set_ne (Ne.symm hk)] at h3
        exact Or.inr (Or.inl ⟨fun hm => (List.mem_cons.mp hm).elim hk h1, h2, h3⟩)
    · rw [List.length_set] at h1
      refine Or.inr (Or.inr ⟨j, h1, ?_⟩)
      rw [List.length_cons, Nat.add_right_comm]
      simpa using h2
theorem putL_ok {A : Nat → Prop} {D : va_G} {cl : List vw_C} {ws wc w1 : va_W} {H H1 : Heap} (hP : va_P D cl ws H) (hD : va_D A ws) (is : List Nat) (hn : va_nd is = true) (hC : is.map (fun i => ws[i]?) = wc.map some) (hl : is.length ≤ w1.length)
    (hk : ∀ q : Nat, q < H.size → ¬ va_A wc H.size q → H1[q]? = H[q]?) (hF : ∀ q, va_A wc H.size q → A q) (hP1 : va_P D cl w1 H1) (hD1 : va_D (va_A wc H.size) w1) : va_P D cl (putL ws is w1) H1 ∧ va_D A (putL ws is w1) := by
  have hat : ∀ (k : Nat) (q : Nat × va_E), wc[k]? = some q → ∃ i, is[k]? = some i ∧ ws[i]? = some q := by
    intro k q hq
    have h1 : (is.map (fun i => ws[i]?))[k]? = some (some q) := by rw [hC, List.getElem?_map, hq]; rfl
    rw [List.getElem?_map] at h1
    cases hi : is[k]? with
    | none => rw [hi] at h1; cases h1
    | some i => rw [hi] at h1; exact ⟨i, rfl, Option.some.inj h1⟩
  have hin : ∀ i ∈ is, i < ws.length := by
    intro i hi
    obtain ⟨k, hk1⟩ := List.getElem?_of_mem hi
    have h1 : (is.map (fun i => ws[i]?))[k]? = some (ws[i]?) := by rw [List.getElem?_map, hk1]; rfl
    rw [hC, List.getElem?_map] at h1
    cases hw : wc[k]? with
    | none => rw [hw] at h1; cases h1
    | some q =>
      rw [hw] at h1
      exact (List.getElem?_eq_some_iff.mp (Option.some.inj h1).symm).1
  have apart : ∀ (i : Nat) (q : Nat × va_E), i ∉ is → ws[i]? = some q → q.1 < H.size ∧ ¬ va_A wc H.size q.1 := by
    intro i q hi hq
    have hl := (hP i q hq).lt
    refine ⟨hl, fun h => ?_⟩
    rcases h with ⟨k2, e, h⟩ | h
    · obtain ⟨j, h3, h4⟩ := hat k2 (q.1, e) h
      have hij := hD.1 i j q (q.1, e) hq h4 rfl
      subst hij
      exact hi (List.mem_of_getElem? h3)
    · omega
  refine ⟨fun k q h => ?_, fun i j p q hi hj hpq => ?_, fun k q h => ?_⟩
  · rcases putL_get is ws w1 k q hn hl hin h with ⟨j, -, h2⟩ | ⟨h1, -, h3⟩ | ⟨j, -, h2⟩
    · exact hP1 j q h2
    · obtain ⟨g1, g2⟩ := apart k q h1 h3
      exact (hP k q h3).kept (hk q.1 g1 g2)
    · exact hP1 _ q h2
  · rcases putL_get is ws w1 i p hn hl hin hi with ⟨a, h1, h2⟩ | ⟨h1, h1', h2⟩ | ⟨a, h1, h2⟩ <;> rcases putL_get is ws w1 j q hn hl hin hj with ⟨b, k1, k2⟩ | ⟨k1, k1', k2⟩ | ⟨b, k1, k2⟩
    · have e := hD1.1 _ _ p q h2 k2 hpq
      subst e
      exact Option.some.inj (h1.symm.trans k1)
    · exact absurd (hpq ▸ hD1.2 _ p h2) (apart j q k1 k2).2
    · have e := hD1.1 _ _ p q h2 k2 hpq
      have := (List.getElem?_eq_some_iff.mp h1).1
      omega
    · exact absurd (hpq ▸ hD1.2 _ q k2) (hpq ▸ (apart i p h1 h2).2)
    · exact hD.1 i j p q h2 k2 hpq
    · exact absurd (hpq ▸ hD1.2 _ q k2) (hpq ▸ (apart i p h1 h2).2)
    · have e := hD1.1 _ _ p q h2 k2 hpq
      have := (List.getElem?_eq_some_iff.mp k1).1
      omega
    · exact absurd (hpq ▸ hD1.2 _ p h2) (apart j q k1 k2).2
    · have e := hD1.1 _ _ p q h2 k2 hpq
      omega
  · rcases putL_get is ws w1 k q hn hl hin h with ⟨j, -, h2⟩ | ⟨h1, -, h3⟩ | ⟨j, -, h2⟩
    · exact hF _ (hD1.2 j q h2)
    · exact hD.2 k q h3
    · exact hF _ (hD1.2 _ q h2)
section CG
variable {p : Program} {l : Launch} {e : Env} {R : Room} {s : State} {m : MethodId} {args : Array Value} {below : List Frame} {meth : Method} {c : Code} {H : Heap} {locs : List Loc} {cells slots mc ms : Nat} {Q : State → Prop} {g : JFrame} {rest : List Value} {free : Addr → Prop}
theorem va_callg {Qa : State → Outcome → State → Prop} (hr : va_Run p l e R s m args below meth c H locs cells slots mc ms g rest Qa free)
    (kk : ∀ (v : Option Value) (st₀ t : State) (H1 : Heap) (L : List Loc), st₀.heap = H → t.heap = H1 → (∀ q ∈ L, free q.base) → Qa st₀ (.returned v) t → W p l e R s m args below meth c H1 (locs ++ L) (cells + mc) (slots + ms) Q { g with pc := g.pc + 3, stack := v.toList ++ rest }) : W p l e R s m args below meth c H locs cells slots Q g := by
  intro T hT X
  obtain ⟨v, st₀, t, T', L, h0, X', hL, e1, e2, hq, stp⟩ := hr T hT X
  obtain ⟨t2, a1, b1⟩ := kk v st₀ t T'.heap L h0 e1.symm hL hq T' rfl X'
  exact ⟨t2, stp t2 a1, b1⟩
end CG
section CK
variable {S : Type} {l : Launch} {G : KX} {D : va_G} {R : Room} {cc : ByteArray} {own : String} {nL ce sl : Nat} {ws : va_W} {lv : List (Nat × Value)} {st : List Value}
variable {y : MethodName} {bytes : ByteArray} {maxL : Nat} {ret : Option FieldType} {fr lo : Nat} {w0 : va_W} {post : Option Value → S → Prop} {w1 : S → va_W} {mc ms n ix : Nat} {As : List Value}
theorem k_callK (hC : CX G D cc own nL) (pc : Nat) {a : Array Value} (is : List Nat) (hnd : va_nd is = true) (his : is.map (fun i => ws[i]?) = w0.map some) (ws' : S → va_W) (hlen : ∀ u, is.length ≤ (w1 u).length) (hws : ∀ u, putL ws is (w1 u) = ws' u)
    {H : Heap} {locs : List Loc} {ls : Array Slot} {st0 : List Value} (hP : va_P D vwCl ws H) (hD : va_D (kA G) ws) (hS : va_S (kA G) (ks G).heap H locs) (hl : lv_has ls nL lv)
    (hr : va_Run (kp G) l (ke G) R (ks G) (km G) (ka G) (kb G) (kme G) (kc G) H locs ce sl mc ms (F0 (km G) pc ls st0) st (MPost D w0 H.size post w1 a) (va_A w0 H.size))
    (kk : ∀ (v : Option Value) (u : S), post v u → KJ l G D R nL (ce + mc) (sl + ms) (ws' u) lv (pc + 3) (v.toList ++ st)) : W (kp G) l (ke G) R (ks G) (km G) (ka G) (kb G) (kme G) (kc G) H locs ce sl (kQ G) (F0 (km G) pc ls st0) := by
  refine va_callg hr (fun v st₀ t H1 L h0 h1 hL hq => ?_)
  obtain ⟨⟨v', u, hv, hp, hP1, hD1⟩, hz, hk⟩ := hq
  cases hv
  rw [h0] at hz hk
  rw [h1] at hP1 hz hk
  have hF : ∀ q, va_A w0 H.size q → kA G q := va_free hD hS hC.nw is his
  obtain ⟨hP2, hD2⟩ := putL_ok hP hD is hnd his (hlen u) hk hF hP1 hD1
  rw [hws u] at hP2 hD2
  refine kk v u hp H1 (locs ++ L) ls hP2 hD2 ⟨Nat.le_trans hS.1 hz, fun q h2 h3 => ?_, fun q hq => ?_⟩ hl
  · rw [hk q (Nat.lt_of_lt_of_le h2 hS.1) (fun z => h3 (hF q z))]
    exact hS.2.1 q h2 h3
  · rcases List.mem_append.mp hq with h | h
    · exact hS.2.2 q h
    · exact hF _ (hL q h)
theorem k_pre (hC : CX G D cc own nL) {av : List Value} (is : List Nat) (hnd : va_nd is = true) (his : is.map (fun i => ws[i]?) = w0.map some) {H : Heap} (hP : va_P D vwCl ws H) (hD : va_D (kA G) ws) : ∀ U : State, U.heap = H → (ks G).WarmedH U.vm → MPre D w0 av H.size av.toArray U := by
  intro U hU hW
  have hP0 : va_P D vwCl w0 H := by
    intro k q hq
    have h1 : (is.map (fun i => ws[i]?))[k]? = some (some q) := by rw [his, List.getElem?_map, hq]; rfl
    rw [List.getElem?_map] at h1
    cases hi : is[k]? with
    | none => rw [hi] at h1; cases h1
    | some i => rw [hi] at h1; exact hP i q (Option.some.inj h1)
  exact ⟨rfl, by rw [hU], by rw [hU]; exact hP0, hC.kt.warm hW, (hD.sub is hnd his).weaken (fun _ _ _ _ => trivial)⟩
theorem k_callV (hC : CX G D cc own nL) (pc : Nat) {b ci : Nat} {q : vw_C} {fs : List Value} (q0 : Nat) (is : List Nat) (ws' : S → va_W) (hM : MU l y bytes maxL ret fr lo D (.ref b :: As) w0 post w1 mc ms) (cw : CWV own ix y bytes maxL ret n) (hdg : decode cc pc = .ok (.invokevirtual ix, 3))
    (hR : fr + 1 ≤ R.frames ∧ 8 + (maxL + 11) + lo ≤ R.locals ∧ ce + mc ≤ R.cells ∧ sl + ms ≤ R.slots) (hn : As.length = n) (hcat : (st.map fun v => v.category).sum ≤ 8)
    (hq : ws[q0]? = some (b, .inr (ci, fs))) (hci : vwCl[ci]? = some q) (hqn : q.1 = y.cls) (hnd : va_nd is = true) (his : is.map (fun i => ws[i]?) = w0.map some) (hlen : ∀ u, is.length ≤ (w1 u).length) (hws : ∀ u, putL ws is (w1 u) = ws' u)
    (st0 : List Value) (hst : st0 = As.reverse ++ .ref b :: st) (kk : ∀ (v : Option Value) (u : S), post v u → KJ l G D R nL (ce + mc) (sl + ms) (ws' u) lv (pc + 3) (v.toList ++ st)) : KJ l G D R nL ce sl ws lv pc st0 := by
  subst hst
  intro H locs ls hP hD hS hl
  have hcw : CallW R (ks G) (ka G) own y.cls ix y bytes maxL ret (.code y bytes maxL ret :: wsL_law) ({ frames := fr, cells := mc, slots := ms, locals := lo } : Room) mc ms n := ⟨callB_of n hC.wd (gAll cw.2.2.2.2.1) rfl rfl rfl (hC.wd _ cw.2.2.2.1) (hC.wd _ cw.1) cw.2.2.2.2.2 ⟨hR.1, hR.2.1⟩, hC.wd _ cw.2.1, hC.wd _ cw.2.2.1⟩
  exact k_callK hC pc is hnd his ws' hlen hws hP hD hS hl (va_runV (As := As) (rest := st) hC.fix (hM H.size) hcw ⟨MPre.blind, by have h := va_recv hC.kk hP hci hq; rw [hqn] at h; exact h, fun U hU hW => k_pre hC is hnd his hP hD U hU hW⟩ rfl hn hl.1 rfl (lv_room hcat) hdg hR.2.2) kk
theorem k_callS (hC : CX G D cc own nL) (pc : Nat) (is : List Nat) (ws' : S → va_W) (hM : MU l y bytes maxL ret fr lo D As w0 post w1 mc ms) (cw : CWS own ix y bytes maxL ret n) (hdg : decode cc pc = .ok (.invokestatic ix, 3))
    (hR : fr + 1 ≤ R.frames ∧ 8 + (maxL + 11) + lo ≤ R.locals ∧ ce + mc ≤ R.cells ∧ sl + ms ≤ R.slots) (hn : As.length = n) (hcat : (st.map fun v => v.category).sum ≤ 8)
    (hnd : va_nd is = true) (his : is.map (fun i => ws[i]?) = w0.map some) (hlen : ∀ u, is.length ≤ (w1 u).length) (hws : ∀ u, putL ws is (w1 u) = ws' u)
    (st0 : List Value) (hst : st0 = As.reverse ++ st) (kk : ∀ (v : Option Value) (u : S), post v u → KJ l G D R nL (ce + mc) (sl + ms) (ws' u) lv (pc + 3) (v.toList ++ st)) : KJ l G D R nL ce sl ws lv pc st0 := by
  subst hst
  intro H locs ls hP hD hS hl
  have hcw : CallB R (ks G) (ka G) own ix y bytes maxL ret (.code y bytes maxL ret :: wsL_law) ({ frames := fr, cells := mc, slots := ms, locals := lo } : Room) mc ms n ∧ (Cond.static y).before (ka G) (ks G) = true := ⟨callB_of n hC.wd (gAll cw.2.2.2.1) rfl rfl rfl (hC.wd _ cw.2.2.1) (hC.wd _ cw.1) cw.2.2.2.2 ⟨hR.1, hR.2.1⟩, hC.wd _ cw.2.1⟩
  exact k_callK hC pc is hnd his ws' hlen hws hP hD hS hl (va_runS (As := As) (rest := st) hC.fix (hM H.size) hcw ⟨MPre.blind, fun U hU hW => k_pre hC is hnd his hP hD U hU hW⟩ rfl hn hl.1 rfl (lv_room hcat) hdg hR.2.2) kk
theorem k_callI (hC : CX G D cc own nL) (pc : Nat) {b : Nat} (is : List Nat) (ws' : S → va_W) (hM : MU l y bytes maxL none fr lo D (.ref b :: As) w0 post w1 mc ms) (cw : CWI own ix y bytes maxL n) (hdg : decode cc pc = .ok (.invokespecial ix, 3))
    (hR : fr + 1 ≤ R.frames ∧ 8 + (maxL + 11) + lo ≤ R.locals ∧ ce + mc ≤ R.cells ∧ sl + ms ≤ R.slots) (hn : As.length = n) (hcat : (st.map fun v => v.category).sum ≤ 8)
    (hnd : va_nd is = true) (his : is.map (fun i => ws[i]?) = w0.map some) (hlen : ∀ u, is.length ≤ (w1 u).length) (hws : ∀ u, putL ws is (w1 u) = ws' u)
    (st0 : List Value) (hst : st0 = As.reverse ++ .ref b :: st) (kk : ∀ (v : Option Value) (u : S), post v u → KJ l G D R nL (ce + mc) (sl + ms) (ws' u) lv (pc + 3) (v.toList ++ st)) : KJ l G D R nL ce sl ws lv pc st0 := by
  subst hst
  intro H locs ls hP hD hS hl
  have hcw : CallB R (ks G) (ka G) own ix y bytes maxL none (.code y bytes maxL none :: wsL_law) ({ frames := fr, cells := mc, slots := ms, locals := lo } : Room) mc ms n ∧ y.name = "<init>" ∧ (Cond.instanceMethod y).before (ka G) (ks G) = true := ⟨callB_of n hC.wd (gAll cw.2.2.2.1) rfl rfl rfl (hC.wd _ cw.2.2.1) (hC.wd _ cw.1) cw.2.2.2.2.2 ⟨hR.1, hR.2.1⟩, cw.2.2.2.2.1, hC.wd _ cw.2.1⟩
  exact k_callK hC pc is hnd his ws' hlen hws hP hD hS hl (va_runI (As := As) (rest := st) hC.fix (hM H.size) hcw ⟨MPre.blind, fun U hU hW => k_pre hC is hnd his hP hD U hU hW⟩ rfl hn hl.1 rfl (lv_room hcat) hdg hR.2.2) kk
theorem k_callVr (hC : CX G D cc own nL) (pc : Nat) {b ci : Nat} {q : vw_C} {fs : List Value} (q0 : Nat) (is : List Nat) (hM : MU l y bytes maxL ret fr lo D (.ref b :: As) w0 post w1 mc ms) (cw : CWV own ix y bytes maxL ret n) (hdg : decode cc pc = .ok (.invokevirtual ix, 3))
    (hR : fr + 1 ≤ R.frames ∧ 8 + (maxL + 11) + lo ≤ R.locals ∧ ce + mc ≤ R.cells ∧ sl + ms ≤ R.slots) (hn : As.length = n) (hcat : (st.map fun v => v.category).sum ≤ 8)
    (hq : ws[q0]? = some (b, .inr (ci, fs))) (hci : vwCl[ci]? = some q) (hqn : q.1 = y.cls) (hnd : va_nd is = true) (his : is.map (fun i => ws[i]?) = w0.map some) (hlen : ∀ u, is.length ≤ (w1 u).length) (hws : ∀ u, putL ws is (w1 u) = ws)
    (st0 : List Value) (hst : st0 = As.reverse ++ .ref b :: st) (kk : ∀ (v : Option Value) (u : S), post v u → KJ l G D R nL (ce + mc) (sl + ms) ws lv (pc + 3) (v.toList ++ st)) : KJ l G D R nL ce sl ws lv pc st0 := k_callV hC pc q0 is (fun _ => ws) hM cw hdg hR hn hcat hq hci hqn hnd his hlen hws st0 hst kk
theorem k_callSr (hC : CX G D cc own nL) (pc : Nat) (is : List Nat) (hM : MU l y bytes maxL ret fr lo D As w0 post w1 mc ms) (cw : CWS own ix y bytes maxL ret n) (hdg : decode cc pc = .ok (.invokestatic ix, 3))
    (hR : fr + 1 ≤ R.frames ∧ 8 + (maxL + 11) + lo ≤ R.locals ∧ ce + mc ≤ R.cells ∧ sl + ms ≤ R.slots) (hn : As.length = n) (hcat : (st.map fun v => v.category).sum ≤ 8)
    (hnd : va_nd is = true) (his : is.map (fun i => ws[i]?) = w0.map some) (hlen : ∀ u, is.length ≤ (w1 u).length) (hws : ∀ u, putL ws is (w1 u) = ws)
    (st0 : List Value) (hst : st0 = As.reverse ++ st) (kk : ∀ (v : Option Value) (u : S), post v u → KJ l G D R nL (ce + mc) (sl + ms) ws lv (pc + 3) (v.toList ++ st)) : KJ l G D R nL ce sl ws lv pc st0 := k_callS hC pc is (fun _ => ws) hM cw hdg hR hn hcat hnd his hlen hws st0 hst kk
theorem k_callIr (hC : CX G D cc own nL) (pc : Nat) {b : Nat} (is : List Nat) (hM : MU l y bytes maxL none fr lo D (.ref b :: As) w0 post w1 mc ms) (cw : CWI own ix y bytes maxL n) (hdg : decode cc pc = .ok (.invokespecial ix, 3))
    (hR : fr + 1 ≤ R.frames ∧ 8 + (maxL + 11) + lo ≤ R.locals ∧ ce + mc ≤ R.cells ∧ sl + ms ≤ R.slots) (hn : As.length = n) (hcat : (st.map fun v => v.category).sum ≤ 8)
    (hnd : va_nd is = true) (his : is.map (fun i => ws[i]?) = w0.map some) (hlen : ∀ u, is.length ≤ (w1 u).length) (hws : ∀ u, putL ws is (w1 u) = ws)
    (st0 : List Value) (hst : st0 = As.reverse ++ .ref b :: st) (kk : ∀ (v : Option Value) (u : S), post v u → KJ l G D R nL (ce + mc) (sl + ms) ws lv (pc + 3) (v.toList ++ st)) : KJ l G D R nL ce sl ws lv pc st0 := k_callI hC pc is (fun _ => ws) hM cw hdg hR hn hcat hnd his hlen hws st0 hst kk
theorem k_objInit (hC : CX G D cc own nL) (pc : Nat) {b : Nat} (hdg : decode cc pc = .ok (.invokespecial ix, 3)) (hw : Cond.methodLink own ix objectInit ∈ wsL_law) (hw2 : Cond.instanceMethod objectInit ∈ wsL_law) (hw3 : Cond.code objectInit ⟨#[0xb1]⟩ 1 none ∈ wsL_law) (hR : 1 ≤ R.frames ∧ (st.map fun v => v.category).sum + 12 ≤ R.locals) (kk : KJ l G D R nL ce sl ws lv (pc + 3) st) : KJ l G D R nL ce sl ws lv pc (.ref b :: st) := fun H locs ls hP hD hS hl => by
  refine W.objInit hC.ex hC.cd hC.on (hC.wd _ hw) (hC.wd _ hw2) (hC.wd _ hw3) rfl (hl.1.trans hC.ml.symm) rfl hdg hR.1 ?_ (kk H locs ls hP hD hS hl)
  show 2 * 0 + _ + 12 ≤ _
  have := hR.2
  omega
theorem k_newarrI (hC : CX G D cc own nL) (pc N : Nat) (hdg : decode cc pc = .ok (.newarray .int, 2)) (hN : N < 2147483648) (hb : N * 4 ≤ 536870912) (hR : ce + 1 ≤ R.cells ∧ sl + N ≤ R.slots) (kk : ∀ q : Nat, KJ l G D R nL (ce + 1) (sl + N) (ws ++ [(q, .inl (D.1 20, N, .inl (fun _ => 0)))]) lv (pc + 2) (.ref q :: st)) : KJ l G D R nL ce sl ws lv pc (.int (nI N) :: st) := fun H locs ls hP hD hS hl => by
  refine va_newa (atype := .int) (ty := .int) (a0 := (N, .inl (fun _ => 0))) hC.ex hC.cd (hC.wd (.arrayClass .int) wq_2_13) rfl hC.kk hP hD hS hC.nw (fun _ => rfl) (fun h => absurd (nI_pos' hN) (by intro h2; exact (Int32.not_lt.mpr h2) h)) (nI_clamp hN) hb hR.1 hR.2 hdg (fun q cA H1 hK1 hP1 hD1 hS1 => ?_)
  have e1 : (ks G).vm.findClass ("[" ++ FieldType.int.toString) = some cA := (hK1.2 5 (cA, .int) rfl).2
  have e2 : (ks G).vm.findClass ("[" ++ FieldType.int.toString) = some (D.1 20) := (hC.kk.2 0 (D.1 20, .int) rfl).2
  have e : cA = D.1 20 := Option.some.inj (e1.symm.trans e2)
  subst e
  exact kk q H1 locs ls hP1 hD1 hS1 hl
theorem k_new (hC : CX G D cc own nL) (pc ci : Nat) {C : String} {T : u_T} {N : Nat} {ty0 : Nat → FieldType} (fs : List Value) (hdg : decode cc pc = .ok (.new ix, 3)) (hc : vwCl[ci]? = some (C, T, N)) (hin : ∀ w ∈ u_ws C T N, w ∈ wsL_law) (hty : ∀ k, k < N → parseFieldDescriptor (T k).2.2.1 = some (ty0 k)) (hw : Cond.classLink own ix C ∈ wsL_law) (hw2 : Cond.instantiable C N ∈ wsL_law) (hw3 : Cond.initialized C ∈ wsL_law) (hfs : ∀ j, j < N → defaultValue (ty0 j) = vp_V fs j) (hR : ce + 1 ≤ R.cells ∧ sl + N ≤ R.slots) (kk : ∀ q : Nat, KJ l G D R nL (ce + 1) (sl + N) (ws ++ [(q, .inr (ci, fs))]) lv (pc + 3) (.ref q :: st)) : KJ l G D R nL ce sl ws lv pc st := fun H locs ls hP hD hS hl => va_new hC.ex hC.cd hC.wd hin ty0 hty hC.on (hC.wd _ hw) (hC.wd _ hw2) (hC.wd _ hw3) hC.kk hP hD hS hC.nw hc hfs hR.1 hR.2 hdg (fun q H1 hP1 hD1 hS1 => kk q H1 locs ls hP1 hD1 hS1 hl)
end CK
/-! THE SAME ROWS OVER NATURAL NUMBERS (nI) -/
section KN
variable {l : Launch} {G : KX} {D : va_G} {R : Room} {cc : ByteArray} {own : String} {nL ce sl : Nat} {ws : va_W} {lv lv' : List (Nat × Value)} {st : List Value}
theorem n_icmp_eq (hC : CX G D cc own nL) (pc : Nat) {a b : Nat} {off : Int} (tgt : Nat) (hdg : decode cc pc = .ok (.if_icmp .eq off, 3)) (ht : (pc : Int) + off = (tgt : Int)) (ha : a < 2147483648) (hb : b < 2147483648) (kt : a = b → KJ l G D R nL ce sl ws lv tgt st) (kf : ¬ a = b → KJ l G D R nL ce sl ws lv (pc + 3) st) : KJ l G D R nL ce sl ws lv pc (.int (nI b) :: .int (nI a) :: st) := by
  have e := (nI_eq ha hb)
  refine k_icmp_eq hC pc tgt hdg ht (fun h => kt ?_) (fun h => kf ?_)
  · first | exact e.mp h | exact fun z => h (e.mpr z) | exact fun z => absurd (e.mpr z) h | (have := e.mp h; omega)
  · first | exact e.mp h | exact fun z => h (e.mpr z) | exact Classical.byContradiction (fun z => h (fun y => z (e.mp y))) | (have : ¬ _ := fun z => h (e.mpr z); omega)
theorem n_icmp_ne (hC : CX G D cc own nL) (pc : Nat) {a b : Nat} {off : Int} (tgt : Nat) (hdg : decode cc pc = .ok (.if_icmp .ne off, 3)) (ht : (pc : Int) + off = (tgt : Int)) (ha : a < 2147483648) (hb : b < 2147483648) (kt : ¬ a = b → KJ l G D R nL ce sl ws lv tgt st) (kf : a = b → KJ l G D R nL ce sl ws lv (pc + 3) st) : KJ l G D R nL ce sl ws lv pc (.int (nI b) :: .int (nI a) :: st) := by
  have e := (nI_eq ha hb)
  refine k_icmp_ne hC pc tgt hdg ht (fun h => kt ?_) (fun h => kf ?_)
  · first | exact e.mp h | exact fun z => h (e.mpr z) | exact fun z => absurd (e.mpr z) h | (have := e.mp h; omega)
  · first | exact e.mp h | exact fun z => h (e.mpr z) | exact Classical.byContradiction (fun z => h (fun y => z (e.mp y))) | (have : ¬ _ := fun z => h (e.mpr z); omega)
theorem n_icmp_lt (hC : CX G D cc own nL) (pc : Nat) {a b : Nat} {off : Int} (tgt : Nat) (hdg : decode cc pc = .ok (.if_icmp .lt off, 3)) (ht : (pc : Int) + off = (tgt : Int)) (ha : a < 2147483648) (hb : b < 2147483648) (kt : a < b → KJ l G D R nL ce sl ws lv tgt st) (kf : b ≤ a → KJ l G D R nL ce sl ws lv (pc + 3) st) : KJ l G D R nL ce sl ws lv pc (.int (nI b) :: .int (nI a) :: st) := by
  have e := (nI_ltI ha hb)
  refine k_icmp_lt hC pc tgt hdg ht (fun h => kt ?_) (fun h => kf ?_)
  · first | exact e.mp h | exact fun z => h (e.mpr z) | exact fun z => absurd (e.mpr z) h | (have := e.mp h; omega)
  · first | exact e.mp h | exact fun z => h (e.mpr z) | exact Classical.byContradiction (fun z => h (fun y => z (e.mp y))) | (have : ¬ _ := fun z => h (e.mpr z); omega)
theorem n_icmp_ge (hC : CX G D cc own nL) (pc : Nat) {a b : Nat} {off : Int} (tgt : Nat) (hdg : decode cc pc = .ok (.if_icmp .ge off, 3)) (ht : (pc : Int) + off = (tgt : Int)) (ha : a < 2147483648) (hb : b < 2147483648) (kt : b ≤ a → KJ l G D R nL ce sl ws lv tgt st) (kf : a < b → KJ l G D R nL ce sl ws lv (pc + 3) st) : KJ l G D R nL ce sl ws lv pc (.int (nI b) :: .int (nI a) :: st) := by
  have e := (nI_leI hb ha)
  refine k_icmp_ge hC pc tgt hdg ht (fun h => kt ?_) (fun h => kf ?_)
  · first | exact e.mp h | exact fun z => h (e.mpr z) | exact fun z => absurd (e.mpr z) h | (have := e.mp h; omega)
  · first | exact e.mp h | exact fun z => h (e.mpr z) | exact Classical.byContradiction (fun z => h (fun y => z (e.mp y))) | (have : ¬ _ := fun z => h (e.mpr z); omega)
theorem n_icmp_gt (hC : CX G D cc own nL) (pc : Nat) {a b : Nat} {off : Int} (tgt : Nat) (hdg : decode cc pc = .ok (.if_icmp .gt off, 3)) (ht : (pc : Int) + off = (tgt : Int)) (ha : a < 2147483648) (hb : b < 2147483648) (kt : b < a → KJ l G D R nL ce sl ws lv tgt st) (kf : a ≤ b → KJ l G D R nL ce sl ws lv (pc + 3) st) : KJ l G D R nL ce sl ws lv pc (.int (nI b) :: .int (nI a) :: st) := by
  have e := (nI_ltI hb ha)
  refine k_icmp_gt hC pc tgt hdg ht (fun h => kt ?_) (fun h => kf ?_)
  · first | exact e.mp h | exact fun z => h (e.mpr z) | exact fun z => absurd (e.mpr z) h | (have := e.mp h; omega)
  · first | exact e.mp h | exact fun z => h (e.mpr z) | exact Classical.byContradiction (fun z => h (fun y => z (e.mp y))) | (have : ¬ _ := fun z => h (e.mpr z); omega)
theorem n_icmp_le (hC : CX G D cc own nL) (pc : Nat) {a b : Nat} {off : Int} (tgt : Nat) (hdg : decode cc pc = .ok (.if_icmp .le off, 3)) (ht : (pc : Int) + off = (tgt : Int)) (ha : a < 2147483648) (hb : b < 2147483648) (kt : a ≤ b → KJ l G D R nL ce sl ws lv tgt st) (kf : b < a → KJ l G D R nL ce sl ws lv (pc + 3) st) : KJ l G D R nL ce sl ws lv pc (.int (nI b) :: .int (nI a) :: st) := by
  have e := (nI_leI ha hb)
  refine k_icmp_le hC pc tgt hdg ht (fun h => kt ?_) (fun h => kf ?_)
  · first | exact e.mp h | exact fun z => h (e.mpr z) | exact fun z => absurd (e.mpr z) h | (have := e.mp h; omega)
  · first | exact e.mp h | exact fun z => h (e.mpr z) | exact Classical.byContradiction (fun z => h (fun y => z (e.mp y))) | (have : ¬ _ := fun z => h (e.mpr z); omega)
theorem n_if_eq (hC : CX G D cc own nL) (pc : Nat) {a : Nat} {off : Int} (tgt : Nat) (hdg : decode cc pc = .ok (.ifCond .eq off, 3)) (ht : (pc : Int) + off = (tgt : Int)) (ha : a < 2147483648) (kt : a = 0 → KJ l G D R nL ce sl ws lv tgt st) (kf : ¬ a = 0 → KJ l G D R nL ce sl ws lv (pc + 3) st) : KJ l G D R nL ce sl ws lv pc (.int (nI a) :: st) := by
  have e1 : nI a = 0 ↔ a = 0 := by rw [← nI_0]; exact nI_eq ha (by omega)
  have e2 : nI a ≤ 0 ↔ a ≤ 0 := by rw [← nI_0]; exact nI_leI ha (by omega)
  have e3 : (0 : Int32) < nI a ↔ 0 < a := by rw [← nI_0]; exact nI_ltI (by omega) ha
  have e4 : (0 : Int32) ≤ nI a ↔ 0 ≤ a := by rw [← nI_0]; exact nI_leI (by omega) ha
  have e5 : nI a < 0 ↔ a < 0 := by rw [← nI_0]; exact nI_ltI ha (by omega)
  refine k_if_eq hC pc tgt hdg ht (fun h => kt ?_) (fun h => kf ?_)
  · first | trivial | exact e1.mp h | exact e3.mp h | exact e5.mp h | exact fun z => h (e1.mpr z) | (have := e2.mp h; omega) | (have := e5.mp h; omega) | (have := e4.mp h; omega)
  · first | trivial | exact e1.mp h | exact e3.mp h | exact fun z => h (e1.mpr z) | exact Classical.byContradiction (fun z => h (fun y => z (e1.mp y))) | exact h (e4.mpr (Nat.zero_le _)) | (have z : ¬ _ := fun z => h (e3.mpr z); omega) | (have z : ¬ _ := fun z => h (e2.mpr z); omega)
theorem n_if_ne (hC : CX G D cc own nL) (pc : Nat) {a : Nat} {off : Int} (tgt : Nat) (hdg : decode cc pc = .ok (.ifCond .ne off, 3)) (ht : (pc : Int) + off = (tgt : Int)) (ha : a < 2147483648) (kt : ¬ a = 0 → KJ l G D R nL ce sl ws lv tgt st) (kf : a = 0 → KJ l G D R nL ce sl ws lv (pc + 3) st) : KJ l G D R nL ce sl ws lv pc (.int (nI a) :: st) := by
  have e1 : nI a = 0 ↔ a = 0 := by rw [← nI_0]; exact nI_eq ha (by omega)
  have e2 : nI a ≤ 0 ↔ a ≤ 0 := by rw [← nI_0]; exact nI_leI ha (by omega)
  have e3 : (0 : Int32) < nI a ↔ 0 < a := by rw [← nI_0]; exact nI_ltI (by omega) ha
  have e4 : (0 : Int32) ≤ nI a ↔ 0 ≤ a := by rw [← nI_0]; exact nI_leI (by omega) ha
  have e5 : nI a < 0 ↔ a < 0 := by rw [← nI_0]; exact nI_ltI ha (by omega)
  refine k_if_ne hC pc tgt hdg ht (fun h => kt ?_) (fun h => kf ?_)
  · first | trivial | exact e1.mp h | exact e3.mp h | exact e5.mp h | exact fun z => h (e1.mpr z) | (have := e2.mp h; omega) | (have := e5.mp h; omega) | (have := e4.mp h; omega)
  · first | trivial | exact e1.mp h | exact e3.mp h | exact fun z => h (e1.mpr z) | exact Classical.byContradiction (fun z => h (fun y => z (e1.mp y))) | exact h (e4.mpr (Nat.zero_le _)) | (have z : ¬ _ := fun z => h (e3.mpr z); omega) | (have z : ¬ _ := fun z => h (e2.mpr z); omega)
theorem n_if_gt (hC : CX G D cc own nL) (pc : Nat) {a : Nat} {off : Int} (tgt : Nat) (hdg : decode cc pc = .ok (.ifCond .gt off, 3)) (ht : (pc : Int) + off = (tgt : Int)) (ha : a < 2147483648) (kt : 0 < a → KJ l G D R nL ce sl ws lv tgt st) (kf : a = 0 → KJ l G D R nL ce sl ws lv (pc + 3) st) : KJ l G D R nL ce sl ws lv pc (.int (nI a) :: st) := by
  have e1 : nI a = 0 ↔ a = 0 := by rw [← nI_0]; exact nI_eq ha (by omega)
  have e2 : nI a ≤ 0 ↔ a ≤ 0 := by rw [← nI_0]; exact nI_leI ha (by omega)
  have e3 : (0 : Int32) < nI a ↔ 0 < a := by rw [← nI_0]; exact nI_ltI (by omega) ha
  have e4 : (0 : Int32) ≤ nI a ↔ 0 ≤ a := by rw [← nI_0]; exact nI_leI (by omega) ha
  have e5 : nI a < 0 ↔ a < 0 := by rw [← nI_0]; exact nI_ltI ha (by omega)
  refine k_if_gt hC pc tgt hdg ht (fun h => kt ?_) (fun h => kf ?_)
  · first | trivial | exact e1.mp h | exact e3.mp h | exact e5.mp h | exact fun z => h (e1.mpr z) | (have := e2.mp h; omega) | (have := e5.mp h; omega) | (have := e4.mp h; omega)
  · first | trivial | exact e1.mp h | exact e3.mp h | exact fun z => h (e1.mpr z) | exact Classical.byContradiction (fun z => h (fun y => z (e1.mp y))) | exact h (e4.mpr (Nat.zero_le _)) | (have z : ¬ _ := fun z => h (e3.mpr z); omega) | (have z : ¬ _ := fun z => h (e2.mpr z); omega)
theorem n_if_le (hC : CX G D cc own nL) (pc : Nat) {a : Nat} {off : Int} (tgt : Nat) (hdg : decode cc pc = .ok (.ifCond .le off, 3)) (ht : (pc : Int) + off = (tgt : Int)) (ha : a < 2147483648) (kt : a = 0 → KJ l G D R nL ce sl ws lv tgt st) (kf : 0 < a → KJ l G D R nL ce sl ws lv (pc + 3) st) : KJ l G D R nL ce sl ws lv pc (.int (nI a) :: st) := by
  have e1 : nI a = 0 ↔ a = 0 := by rw [← nI_0]; exact nI_eq ha (by omega)
  have e2 : nI a ≤ 0 ↔ a ≤ 0 := by rw [← nI_0]; exact nI_leI ha (by omega)
  have e3 : (0 : Int32) < nI a ↔ 0 < a := by rw [← nI_0]; exact nI_ltI (by omega) ha
  have e4 : (0 : Int32) ≤ nI a ↔ 0 ≤ a := by rw [← nI_0]; exact nI_leI (by omega) ha
  have e5 : nI a < 0 ↔ a < 0 := by rw [← nI_0]; exact nI_ltI ha (by omega)
  refine k_if_le hC pc tgt hdg ht (fun h => kt ?_) (fun h => kf ?_)
  · first | trivial | exact e1.mp h | exact e3.mp h | exact e5.mp h | exact fun z => h (e1.mpr z) | (have := e2.mp h; omega) | (have := e5.mp h; omega) | (have := e4.mp h; omega)
  · first | trivial | exact e1.mp h | exact e3.mp h | exact fun z => h (e1.mpr z) | exact Classical.byContradiction (fun z => h (fun y => z (e1.mp y))) | exact h (e4.mpr (Nat.zero_le _)) | (have z : ¬ _ := fun z => h (e3.mpr z); omega) | (have z : ¬ _ := fun z => h (e2.mpr z); omega)
theorem n_if_lt (hC : CX G D cc own nL) (pc : Nat) {a : Nat} {off : Int} (tgt : Nat) (hdg : decode cc pc = .ok (.ifCond .lt off, 3)) (ht : (pc : Int) + off = (tgt : Int)) (ha : a < 2147483648) (kt : False → KJ l G D R nL ce sl ws lv tgt st) (kf : True → KJ l G D R nL ce sl ws lv (pc + 3) st) : KJ l G D R nL ce sl ws lv pc (.int (nI a) :: st) := by
  have e1 : nI a = 0 ↔ a = 0 := by rw [← nI_0]; exact nI_eq ha (by omega)
  have e2 : nI a ≤ 0 ↔ a ≤ 0 := by rw [← nI_0]; exact nI_leI ha (by omega)
  have e3 : (0 : Int32) < nI a ↔ 0 < a := by rw [← nI_0]; exact nI_ltI (by omega) ha
  have e4 : (0 : Int32) ≤ nI a ↔ 0 ≤ a := by rw [← nI_0]; exact nI_leI (by omega) ha
  have e5 : nI a < 0 ↔ a < 0 := by rw [← nI_0]; exact nI_ltI ha (by omega)
  refine k_if_lt hC pc tgt hdg ht (fun h => kt ?_) (fun h => kf ?_)
  · first | trivial | exact e1.mp h | exact e3.mp h | exact e5.mp h | exact fun z => h (e1.mpr z) | (have := e2.mp h; omega) | (have := e5.mp h; omega) | (have := e4.mp h; omega)
  · first | trivial | exact e1.mp h | exact e3.mp h | exact fun z => h (e1.mpr z) | exact Classical.byContradiction (fun z => h (fun y => z (e1.mp y))) | exact h (e4.mpr (Nat.zero_le _)) | (have z : ¬ _ := fun z => h (e3.mpr z); omega) | (have z : ¬ _ := fun z => h (e2.mpr z); omega)
theorem n_if_ge (hC : CX G D cc own nL) (pc : Nat) {a : Nat} {off : Int} (tgt : Nat) (hdg : decode cc pc = .ok (.ifCond .ge off, 3)) (ht : (pc : Int) + off = (tgt : Int)) (ha : a < 2147483648) (kt : True → KJ l G D R nL ce sl ws lv tgt st) (kf : False → KJ l G D R nL ce sl ws lv (pc + 3) st) : KJ l G D R nL ce sl ws lv pc (.int (nI a) :: st) := by
  have e1 : nI a = 0 ↔ a = 0 := by rw [← nI_0]; exact nI_eq ha (by omega)
  have e2 : nI a ≤ 0 ↔ a ≤ 0 := by rw [← nI_0]; exact nI_leI ha (by omega)
  have e3 : (0 : Int32) < nI a ↔ 0 < a := by rw [← nI_0]; exact nI_ltI (by omega) ha
  have e4 : (0 : Int32) ≤ nI a ↔ 0 ≤ a := by rw [← nI_0]; exact nI_leI (by omega) ha
  have e5 : nI a < 0 ↔ a < 0 := by rw [← nI_0]; exact nI_ltI ha (by omega)
  refine k_if_ge hC pc tgt hdg ht (fun h => kt ?_) (fun h => kf ?_)
  · first | trivial | exact e1.mp h | exact e3.mp h | exact e5.mp h | exact fun z => h (e1.mpr z) | (have := e2.mp h; omega) | (have := e5.mp h; omega) | (have := e4.mp h; omega)
  · first | trivial | exact e1.mp h | exact e3.mp h | exact fun z => h (e1.mpr z) | exact Classical.byContradiction (fun z => h (fun y => z (e1.mp y))) | exact h (e4.mpr (Nat.zero_le _)) | (have z : ¬ _ := fun z => h (e3.mpr z); omega) | (have z : ¬ _ := fun z => h (e2.mpr z); omega)
theorem n_iald (hC : CX G D cc own nL) (pc : Nat) {a n i : Nat} {f : Nat → Int32} (q0 : Nat) (v : Int32) (hdg : decode cc pc = .ok (.iaload, 1)) (ha : ws[q0]? = some (a, .inl (D.1 20, n, .inl f))) (hi : i < n) (hn : n < 2147483648) (hv : f i = v) (kk : KJ l G D R nL ce sl ws lv (pc + 1) (.int v :: st)) : KJ l G D R nL ce sl ws lv pc (.int (nI i) :: .ref a :: st) := k_iald hC pc q0 hdg ha (vp_in_nI hi hn) (by rw [nI_clamp (by omega), hv]; exact kk)
theorem n_iast (hC : CX G D cc own nL) (pc : Nat) {a n i : Nat} {f : Nat → Int32} {x : Int32} (q0 : Nat) (ws' : va_W) (hdg : decode cc pc = .ok (.iastore, 1)) (ha : ws[q0]? = some (a, .inl (D.1 20, n, .inl f))) (hi : i < n) (hn : n < 2147483648) (hws : ws.set q0 (a, .inl (D.1 20, n, .inl (upd f i x))) = ws') (kk : KJ l G D R nL ce sl ws' lv (pc + 1) st) : KJ l G D R nL ce sl ws lv pc (.int x :: .int (nI i) :: .ref a :: st) := k_iast hC pc q0 ws' hdg ha (vp_in_nI hi hn) (by rw [nI_clamp (by omega)]; exact hws) kk
theorem n_iadd (hC : CX G D cc own nL) (pc : Nat) {a b : Nat} (v : Nat) (hdg : decode cc pc = .ok (.iadd, 1)) (hv : a + b = v) (k : KJ l G D R nL ce sl ws lv (pc + 1) (.int (nI v) :: st)) : KJ l G D R nL ce sl ws lv pc (.int (nI b) :: .int (nI a) :: st) := k_iadd hC pc hdg (KJ.topi ((nI_add a b).trans (by rw [hv])) k)
theorem n_imul (hC : CX G D cc own nL) (pc : Nat) {a b : Nat} (v : Nat) (hdg : decode cc pc = .ok (.imul, 1)) (hv : a * b = v) (k : KJ l G D R nL ce sl ws lv (pc + 1) (.int (nI v) :: st)) : KJ l G D R nL ce sl ws lv pc (.int (nI b) :: .int (nI a) :: st) := k_imul hC pc hdg (KJ.topi ((pk_mul a b).trans (by rw [hv])) k)
theorem n_isub (hC : CX G D cc own nL) (pc : Nat) {a b : Nat} (v : Nat) (hdg : decode cc pc = .ok (.isub, 1)) (h : b ≤ a) (hv : a - b = v) (k : KJ l G D R nL ce sl ws lv (pc + 1) (.int (nI v) :: st)) : KJ l G D R nL ce sl ws lv pc (.int (nI b) :: .int (nI a) :: st) := k_isub hC pc hdg (KJ.topi ((pk_sub h).trans (by rw [hv])) k)
end KN
