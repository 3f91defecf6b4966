/-! MORE ROWS: null returned, cells moved, calls of nest mates on the last piece; the simulation's world -/
section KQ
variable {S : Type} {l : Launch} {G : KX} {D : va_G} {R : Room} {cc : ByteArray} {own : String} {nL ce sl : Nat} {ws : va_W} {lv : List (Nat × Value)} {st : List Value}
variable {y : MethodName} {bytes : ByteArray} {maxL : Nat} {ret : Option FieldType} {fr lo : Nat} {w0 : va_W} {post : Option Value → S → Prop} {w1 : S → va_W} {px : String → Prop} {mc ms n ix : Nat} {As : List Value} {av : List Value}
theorem k_aretN {rt : FieldType} (hC : CX G D cc own nL) (hE : EX G D y w0 post w1 (some rt) mc ms) (pc : Nat) (u : S) (hdg : decode cc pc = .ok (.areturn, 1)) (hrt : (∃ n, rt = .object n) ∨ ∃ t, rt = .array t) (hp : post (some .null) u) (hw : w1 u = ws) (hf : ce ≤ mc ∧ sl ≤ ms) : KJ l G D R nL ce sl ws lv pc [.null] := fun H locs ls hP hD hS hl => by
  rw [hE.2.1]
  exact W.widen hf.1 hf.2 (W.aret hC.ex hC.cd hE.2.2.1 hrt (Or.inl rfl) (hE.end_ hp hP hD hS hw) (hE.lc hS) hdg hE.2.2.2.1)
/-- a cell of the middle, further to the back -/
theorem KJ.bk {pc : Nat} (X Y Z : va_W) (c : Nat × va_E) {ws' : va_W} (h : ws = X ++ c :: (Y ++ Z)) (h' : X ++ (Y ++ c :: Z) = ws') (k : KJ l G D R nL ce sl ws' lv pc st) : KJ l G D R nL ce sl ws lv pc st := by
  subst h
  subst h'
  exact KJ.pm (List.Perm.append_left X List.perm_middle.symm) k
/-- .. and to the front -/
theorem KJ.fw {pc : Nat} (X Y Z : va_W) (c : Nat × va_E) {ws' : va_W} (h : ws = X ++ (Y ++ c :: Z)) (h' : X ++ c :: (Y ++ Z) = ws') (k : KJ l G D R nL ce sl ws' lv pc st) : KJ l G D R nL ce sl ws lv pc st := by
  subst h
  subst h'
  exact KJ.pm (List.Perm.append_left X List.perm_middle) k
theorem f_callSNe (hC : CX G D cc own nL) (pc : Nat) (P : va_W) (ws' : S → va_W) (hM : MU l y bytes maxL ret fr lo D As w0 post w1 mc ms) (hnest : va_Nw (.methodLinkNest own ix y RL) (ks G)) (cw : CNS y bytes maxL ret n) (hdg : decode cc pc = .ok (.invokestatic ix, 3))
    (hR : fr + 1 ≤ R.frames ∧ 8 + (maxL + 11) + lo ≤ R.locals ∧ ce + mc ≤ R.cells ∧ sl + ms ≤ R.slots) (hn : As.length = n) (hcat : (st.map fun v => v.category).sum ≤ 8) (hW : ws = P ++ w0 ++ []) (hL : ∀ u, w0.length ≤ (w1 u).length) (hws : ∀ u, P ++ w1 u ++ [] = ws' u)
    (st0 : List Value) (hst : st0 = As.reverse ++ st) (kk : ∀ (v : Option Value) (u : S), post v u → KJ l G D R nL (ce + mc) (sl + ms) (ws' u) lv (pc + 3) (v.toList ++ st)) : KJ l G D R nL ce sl ws lv pc st0 :=
  k_callSN hC pc (List.range' P.length w0.length) ws' hM hnest cw hdg hR hn hcat (nd_range _ _) (by rw [hW]; exact map_mid w0 P []) (fun u => by rw [List.length_range']; exact hL u) (fun u => by rw [hW, putL_end _ _ _ (hL u)]; exact hws u) st0 hst kk
theorem f_callSe (hC : CX G D cc own nL) (pc : Nat) (P : va_W) (ws' : S → va_W) (hM : MU l y bytes maxL ret fr lo D As w0 post w1 mc ms) (cw : CWS own ix y bytes maxL ret n) (hdg : decode cc pc = .ok (.invokestatic ix, 3))
    (hR : fr + 1 ≤ R.frames ∧ 8 + (maxL + 11) + lo ≤ R.locals ∧ ce + mc ≤ R.cells ∧ sl + ms ≤ R.slots) (hn : As.length = n) (hcat : (st.map fun v => v.category).sum ≤ 8) (hW : ws = P ++ w0 ++ []) (hL : ∀ u, w0.length ≤ (w1 u).length) (hws : ∀ u, P ++ w1 u ++ [] = ws' u)
    (st0 : List Value) (hst : st0 = As.reverse ++ st) (kk : ∀ (v : Option Value) (u : S), post v u → KJ l G D R nL (ce + mc) (sl + ms) (ws' u) lv (pc + 3) (v.toList ++ st)) : KJ l G D R nL ce sl ws lv pc st0 :=
  k_callS hC pc (List.range' P.length w0.length) ws' hM cw hdg hR hn hcat (nd_range _ _) (by rw [hW]; exact map_mid w0 P []) (fun u => by rw [List.length_range']; exact hL u) (fun u => by rw [hW, putL_end _ _ _ (hL u)]; exact hws u) st0 hst kk
theorem f_callVe (hC : CX G D cc own nL) (pc : Nat) {b ci : Nat} {q : vw_C} {fs : List Value} (q0 : Nat) (P : va_W) (ws' : S → va_W) (hM : MU l y bytes maxL ret fr lo D (.ref b :: As) w0 post w1 mc ms) (cw : CWV own ix y bytes maxL ret n) (hdg : decode cc pc = .ok (.invokevirtual ix, 3))
    (hR : fr + 1 ≤ R.frames ∧ 8 + (maxL + 11) + lo ≤ R.locals ∧ ce + mc ≤ R.cells ∧ sl + ms ≤ R.slots) (hn : As.length = n) (hcat : (st.map fun v => v.category).sum ≤ 8) (hq : ws[q0]? = some (b, .inr (ci, fs))) (hci : vwCl[ci]? = some q) (hqn : q.1 = y.cls) (hW : ws = P ++ w0 ++ []) (hL : ∀ u, w0.length ≤ (w1 u).length) (hws : ∀ u, P ++ w1 u ++ [] = ws' u)
    (st0 : List Value) (hst : st0 = As.reverse ++ .ref b :: st) (kk : ∀ (v : Option Value) (u : S), post v u → KJ l G D R nL (ce + mc) (sl + ms) (ws' u) lv (pc + 3) (v.toList ++ st)) : KJ l G D R nL ce sl ws lv pc st0 :=
  k_callV hC pc q0 (List.range' P.length w0.length) ws' hM cw hdg hR hn hcat hq hci hqn (nd_range _ _) (by rw [hW]; exact map_mid w0 P []) (fun u => by rw [List.length_range']; exact hL u) (fun u => by rw [hW, putL_end _ _ _ (hL u)]; exact hws u) st0 hst kk
theorem f_callINe (hC : CX G D cc own nL) (pc : Nat) {b : Nat} (P : va_W) (ws' : S → va_W) (hM : MU l y bytes maxL none fr lo D (.ref b :: As) w0 post w1 mc ms) (hnest : va_Nw (.methodLinkNest own ix y RL) (ks G)) (cw : CNI y bytes maxL n) (hdg : decode cc pc = .ok (.invokespecial ix, 3))
    (hR : fr + 1 ≤ R.frames ∧ 8 + (maxL + 11) + lo ≤ R.locals ∧ ce + mc ≤ R.cells ∧ sl + ms ≤ R.slots) (hn : As.length = n) (hcat : (st.map fun v => v.category).sum ≤ 8) (hW : ws = P ++ w0 ++ []) (hL : ∀ u, w0.length ≤ (w1 u).length) (hws : ∀ u, P ++ w1 u ++ [] = ws' u)
    (st0 : List Value) (hst : st0 = As.reverse ++ .ref b :: st) (kk : ∀ (v : Option Value) (u : S), post v u → KJ l G D R nL (ce + mc) (sl + ms) (ws' u) lv (pc + 3) (v.toList ++ st)) : KJ l G D R nL ce sl ws lv pc st0 :=
  k_callIN hC pc (List.range' P.length w0.length) ws' hM hnest cw hdg hR hn hcat (nd_range _ _) (by rw [hW]; exact map_mid w0 P []) (fun u => by rw [List.length_range']; exact hL u) (fun u => by rw [hW, putL_end _ _ _ (hL u)]; exact hws u) st0 hst kk
end KQ
theorem getD_mem {L : List Nat} {i : Nat} (h : i < L.length) : L.getD i 0 ∈ L := by
  rw [List.getD_eq_getElem?_getD, List.getElem?_eq_getElem h]
  exact List.getElem_mem h
/-- an array of references, filled as far as i -/
def fillq (F : Nat → Option Nat) (i : Nat) : Nat → Option Nat := fun j => if j < i then F j else none
theorem fillq_0 (F : Nat → Option Nat) : (fun _ => none) = fillq F 0 := by
  funext j
  unfold fillq
  rw [if_neg (by omega)]
theorem fillq_s {F : Nat → Option Nat} {i v : Nat} (h : F i = some v) : va_up (fillq F i) i (some v) = fillq F (i + 1) := by
  funext j
  unfold fillq va_up
  by_cases e : j = i
  · subst e
    rw [if_pos rfl, if_pos (by omega), h]
  · rw [if_neg e]
    show (if j < i then F j else none) = _
    by_cases e2 : j < i
    · rw [if_pos e2, if_pos (by omega)]
    · rw [if_neg e2, if_neg (by omega)]
theorem fillq_i {F : Nat → Option Nat} {i j : Nat} (h : j < i) : fillq F i j = F j := if_pos h
/-- with the place p left out -/
def wof {α : Type} (F : Nat → α) (p : Nat) : Nat → α := fun j => if j < p then F j else F (j + 1)
theorem wof_l {α : Type} {F : Nat → α} {p j : Nat} (h : j < p) : wof F p j = F j := if_pos h
theorem wof_r {α : Type} {F : Nat → α} {p j : Nat} (h : p ≤ j) : wof F p j = F (j + 1) := if_neg (by omega)
/-- what the rows of jars hold, where the kinds' jars lie at adr -/
def RJ (adr : Nat → Nat) (N : List Nat) (F : Nat → Option Nat) : Prop := ∀ i : Nat, i < N.length → F i = some (adr (N.getD i 0))
def JP (adr : Nat → Nat) (L : List Nat) (f : Nat → va_E) (N T : List Nat) (to pi : Nat → Nat) (fe : Nat → Int32) : Prop :=
  ∀ k : Nat, k ∈ N ∨ k ∈ T → adr k ∈ L ∧ f (adr k) = .inr (4, [.int (nI k), .int (nI (to k)), .int (nI (pi k)), .int (fe k)])
theorem RJ.push {adr : Nat → Nat} {N : List Nat} {F : Nat → Option Nat} (h : RJ adr N F) (k : Nat) : RJ adr (N ++ [k]) (va_up (fillq F N.length) N.length (some (adr k))) := by
  intro i hi
  rw [List.length_append, List.length_singleton] at hi
  by_cases e : i = N.length
  · subst e
    rw [va_up_self]
    simp
  · rw [va_up_ne _ _ e, fillq_i (by omega), h i (by omega)]
    simp [List.getD_eq_getElem?_getD, List.getElem?_append_left (show i < N.length by omega)]
theorem RJ.cut {adr : Nat → Nat} {N : List Nat} {F : Nat → Option Nat} (h : RJ adr N F) {p : Nat} (hp : p < N.length) : RJ adr (N.eraseIdx p) (fillq (wof F p) (N.length - 1)) := by
  intro i hi
  rw [List.length_eraseIdx_of_lt hp] at hi
  rw [fillq_i hi, List.getD_eq_getElem?_getD, List.getElem?_eraseIdx]
  by_cases h1 : i < p
  · rw [wof_l h1, h i (by omega), if_pos h1, List.getD_eq_getElem?_getD]
  · rw [wof_r (by omega), h (i + 1) (by omega), if_neg h1, List.getD_eq_getElem?_getD]
theorem RJ.tl {adr : Nat → Nat} {k : Nat} {N : List Nat} {F : Nat → Option Nat} (h : RJ adr (k :: N) F) : RJ adr N (fillq (wof F 0) ((k :: N).length - 1)) := h.cut (p := 0) (by rw [List.length_cons]; omega)
theorem RJ.adr {adr : Nat → Nat} {N : List Nat} {F : Nat → Option Nat} (h : RJ adr N F) {k q : Nat} (hk : k ∉ N) : RJ (va_up adr k q) N F := fun i hi => by
  have e : N.getD i 0 ≠ k := fun z => by
    have h2 := getD_mem hi
    rw [z] at h2
    exact hk h2
  rw [h i hi, va_up_ne _ _ e]
theorem RowL.push2 {A : List Nat} {g : Nat → Int32} (h : RowL A g) (k : Nat) : RowL (A ++ [k]) (upd (cpf g (fun _ => 0) A.length) A.length (nI k)) := (RowL.of h (fun i hi => cpf_in hi)).push k
theorem RowL.cut2 {A : List Nat} {g : Nat → Int32} (h : RowL A g) {p : Nat} (hp : p < A.length) : RowL (A.eraseIdx p) (cpf (wof g p) (fun _ => 0) (A.length - 1)) := by
  intro i hi
  rw [List.length_eraseIdx_of_lt hp] at hi
  rw [cpf_in hi, List.getD_eq_getElem?_getD, List.getElem?_eraseIdx]
  by_cases h1 : i < p
  · rw [wof_l h1, h i (by omega), if_pos h1, List.getD_eq_getElem?_getD]
  · rw [wof_r (by omega), h (i + 1) (by omega), if_neg h1, List.getD_eq_getElem?_getD]
theorem RowL.tl {k : Nat} {A : List Nat} {g : Nat → Int32} (h : RowL (k :: A) g) : RowL A (cpf (wof g 0) (fun _ => 0) ((k :: A).length - 1)) := h.cut2 (p := 0) (by rw [List.length_cons]; omega)
theorem JP.sub {adr : Nat → Nat} {L : List Nat} {f : Nat → va_E} {N T N2 T2 : List Nat} {to pi : Nat → Nat} {fe : Nat → Int32} (h : JP adr L f N T to pi fe) (hs : ∀ k : Nat, k ∈ N2 ∨ k ∈ T2 → k ∈ N ∨ k ∈ T) : JP adr L f N2 T2 to pi fe := fun k hk => h k (hs k hk)
theorem JP.ne {adr : Nat → Nat} {L : List Nat} {f : Nat → va_E} {N T : List Nat} {to pi : Nat → Nat} {fe : Nat → Int32} (h : JP adr L f N T to pi fe) (kN : KL N) (kT : KL T) {j k : Nat} (hj : j ∈ N ∨ j ∈ T) (hk : k ∈ N ∨ k ∈ T) (e : j ≠ k) : adr j ≠ adr k := by
  intro z
  have h1 := (h j hj).2
  have h2 := (h k hk).2
  rw [z, h2] at h1
  have h3 := (List.cons.inj (Prod.mk.inj (Sum.inr.inj h1)).2).1
  have b1 := hj.elim (kN j) (kT j)
  have b2 := hk.elim (kN k) (kT k)
  exact e ((nI_eq (by omega) (by omega)).mp (Value.int.inj h3).symm)
/-- one jar of the pool is written: its marks -/
theorem JP.put {adr : Nat → Nat} {L : List Nat} {f : Nat → va_E} {N T : List Nat} {to pi : Nat → Nat} {fe : Nat → Int32} (h : JP adr L f N T to pi fe) (kN : KL N) (kT : KL T) {k x y : Nat} {z : Int32} (hk : k ∈ N ∨ k ∈ T) : JP adr L (va_up f (adr k) (.inr (4, [.int (nI k), .int (nI x), .int (nI y), .int z]))) N T (va_up to k x) (va_up pi k y) (va_up fe k z) := by
  intro j hj
  refine ⟨(h j hj).1, ?_⟩
  by_cases e : j = k
  · subst e
    rw [va_up_self, va_up_self, va_up_self, va_up_self]
  · rw [va_up_ne _ _ (h.ne kN kT hj hk e), va_up_ne _ _ e, va_up_ne _ _ e, va_up_ne _ _ e]
    exact (h j hj).2
theorem up_id {α : Type} (f : Nat → α) (k : Nat) : va_up f k (f k) = f := by
  funext j
  unfold va_up
  by_cases e : j = k
  · subst e; rw [if_pos rfl]
  · rw [if_neg e]
theorem JP.putT {adr : Nat → Nat} {L : List Nat} {f : Nat → va_E} {N T : List Nat} {to pi : Nat → Nat} {fe : Nat → Int32} (h : JP adr L f N T to pi fe) (kN : KL N) (kT : KL T) {k x : Nat} (hk : k ∈ N ∨ k ∈ T) : JP adr L (va_up f (adr k) (.inr (4, [.int (nI k), .int (nI x), .int (nI (pi k)), .int (fe k)]))) N T (va_up to k x) pi fe := by
  have h2 := h.put kN kT (x := x) (y := pi k) (z := fe k) hk
  rw [up_id, up_id] at h2
  exact h2
theorem JP.putP {adr : Nat → Nat} {L : List Nat} {f : Nat → va_E} {N T : List Nat} {to pi : Nat → Nat} {fe : Nat → Int32} (h : JP adr L f N T to pi fe) (kN : KL N) (kT : KL T) {k y : Nat} (hk : k ∈ N ∨ k ∈ T) : JP adr L (va_up f (adr k) (.inr (4, [.int (nI k), .int (nI (to k)), .int (nI y), .int (fe k)]))) N T to (va_up pi k y) fe := by
  have h2 := h.put kN kT (x := to k) (y := y) (z := fe k) hk
  rw [up_id, up_id] at h2
  exact h2
/-- a new jar -/
theorem JP.new {adr : Nat → Nat} {L : List Nat} {f : Nat → va_E} {N T N2 T2 : List Nat} {to pi : Nat → Nat} {fe : Nat → Int32} (h : JP adr L f N T to pi fe) {k q : Nat} (hk : ¬ (k ∈ N ∨ k ∈ T)) (hq : q ∉ L) (hs : ∀ j : Nat, j ∈ N2 ∨ j ∈ T2 → (j ∈ N ∨ j ∈ T) ∨ j = k) : JP (va_up adr k q) (L ++ [q]) (va_up f q (.inr (4, [.int (nI k), .int (nI 0), .int (nI 0), .int (nI 1)]))) N2 T2 (va_up to k 0) (va_up pi k 0) (va_up fe k (nI 1)) := by
  intro j hj
  rcases hs j hj with h1 | rfl
  · have e : j ≠ k := fun z => hk (z ▸ h1)
    have e2 : adr j ≠ q := fun z => hq (z ▸ (h j h1).1)
    rw [va_up_ne _ _ e, va_up_ne _ _ e, va_up_ne _ _ e, va_up_ne _ _ e, va_up_ne _ _ e2]
    exact ⟨List.mem_append_left _ (h j h1).1, (h j h1).2⟩
  · rw [va_up_self, va_up_self, va_up_self, va_up_self, va_up_self]
    exact ⟨List.mem_append_right _ List.mem_cons_self, rfl⟩
/-- the simulation's data: the rows' and lists' cells; shelves, lists; what they hold; the pool of jars; where the kinds' jars lie -/
abbrev SX : Type := Nat × Nat × Nat × Nat × (Nat → Option Nat) × (Nat → Option Nat) × (Nat → Option Nat) × (Nat → Option Nat) × (Nat → Int32) × (Nat → Int32) × List Nat × (Nat → va_E) × (Nat → Nat)
def SJ : PS → SX → Prop
  | (N, T, A, B, to, pi, fe, _, _, _, _, _, _), (n0, n1, l0, l1, hs, hl, f0, f1, g0, g1, L, f, adr) => hs 0 = some n0 ∧ hs 1 = some n1 ∧ hl 0 = some l0 ∧ hl 1 = some l1 ∧ RJ adr N f0 ∧ RJ adr T f1 ∧ RowL A g0 ∧ RowL B g1 ∧ JP adr L f N T to pi fe
def wSm (D : va_G) (m p r : Nat) : PS → SX → va_W
  | (N, T, A, B, _, _, _, pl, go, hi, mi, re, lo), (n0, n1, l0, l1, hs, hl, f0, f1, g0, g1, L, f, _) =>
    [(m, .inr (5, [.int (nI pl), .int (nI go), .int hi, .int mi, .int re, .int lo, .ref p, .ref r])), (p, .inl (D.1 23, 2, qv hs)), (r, .inl (D.1 24, 2, qv hl)),
     (n0, .inl (D.1 22, N.length, qv f0)), (n1, .inl (D.1 22, T.length, qv f1)), (l0, .inl (D.1 20, A.length, .inl g0)), (l1, .inl (D.1 20, B.length, .inl g1))] ++ va_pl L f
theorem cns_L_with : CNS yL_with cL_with 4 (some (.array (.object "PinnedPantryLaw$Jar"))) 2 := ⟨wq_7_23, wq_2_23, wq_8_0, by decide, by decide, by decide +kernel⟩
theorem cns_L_without : CNS yL_without cL_without 4 (some (.array (.object "PinnedPantryLaw$Jar"))) 2 := ⟨wq_6_7, wq_2_23, wq_6_8, by decide, by decide, by decide +kernel⟩
theorem cns_L_with_ : CNS yL_with_ cL_with_ 4 (some (.array .int)) 2 := ⟨wq_8_1, wq_2_23, wq_8_2, by decide, by decide, by decide +kernel⟩
theorem cns_L_without_ : CNS yL_without_ cL_without_ 4 (some (.array .int)) 2 := ⟨wq_8_3, wq_2_23, wq_8_4, by decide, by decide, by decide +kernel⟩
theorem cni_X5_init : CNI yX5_init cX5_init 1 0 := ⟨wq_3_4, wq_3_3, wq_3_5, rfl, by decide, by decide, by decide +kernel⟩
section KR
variable {S : Type} {l : Launch} {G : KX} {D : va_G} {R : Room} {cc : ByteArray} {own : String} {nL ce sl : Nat} {ws : va_W} {lv : List (Nat × Value)} {st : List Value}
variable {y : MethodName} {bytes : ByteArray} {maxL : Nat} {ret : Option FieldType} {fr lo : Nat} {w0 : va_W} {post : Option Value → S → Prop} {w1 : S → va_W} {mc ms n ix : Nat} {As : List Value}
theorem kp_callK (hC : CX G D cc own nL) (pc : Nat) {a : Array Value} (is : List Nat) (hnd : va_nd is = true) (his : is.map (fun i => ws[i]?) = w0.map some) (ws' : S → va_W) (hlen : ∀ (v : Option Value) (u : S), post v u → is.length ≤ (w1 u).length) (hws : ∀ (v : Option Value) (u : S), post v u → putL ws is (w1 u) = ws' u)
    {H : Heap} {locs : List Loc} {ls : Array Slot} {st0 : List Value} (hP : va_P D vwCl ws H) (hD : va_D (kA G) ws) (hS : va_S (kA G) (ks G).heap H locs) (hl : lv_has ls nL lv)
    (hr : va_Run (kp G) l (ke G) R (ks G) (km G) (ka G) (kb G) (kme G) (kc G) H locs ce sl mc ms (F0 (km G) pc ls st0) st (MPost D w0 H.size post w1 a) (va_A w0 H.size))
    (kk : ∀ (v : Option Value) (u : S), post v u → KJ l G D R nL (ce + mc) (sl + ms) (ws' u) lv (pc + 3) (v.toList ++ st)) : W (kp G) l (ke G) R (ks G) (km G) (ka G) (kb G) (kme G) (kc G) H locs ce sl (kQ G) (F0 (km G) pc ls st0) := by
  refine va_callg hr (fun v st₀ t H1 L h0 h1 hL hq => ?_)
  obtain ⟨⟨v', u, hv, hp, hP1, hD1⟩, hz, hk⟩ := hq
  cases hv
  rw [h0] at hz hk
  rw [h1] at hP1 hz hk
  have hF : ∀ q, va_A w0 H.size q → kA G q := va_free hD hS hC.nw is his
  obtain ⟨hP2, hD2⟩ := putL_ok hP hD is hnd his (hlen _ u hp) hk hF hP1 hD1
  rw [hws _ u hp] at hP2 hD2
  refine kk v u hp H1 (locs ++ L) ls hP2 hD2 ⟨Nat.le_trans hS.1 hz, fun q h2 h3 => ?_, fun q hq => ?_⟩ hl
  · rw [hk q (Nat.lt_of_lt_of_le h2 hS.1) (fun z => h3 (hF q z))]
    exact hS.2.1 q h2 h3
  · rcases List.mem_append.mp hq with h | h
    · exact hS.2.2 q h
    · exact hF _ (hL q h)
theorem kp_callV (hC : CX G D cc own nL) (pc : Nat) {b ci : Nat} {q : vw_C} {fs : List Value} (q0 : Nat) (is : List Nat) (ws' : S → va_W) (hM : MU l y bytes maxL ret fr lo D (.ref b :: As) w0 post w1 mc ms) (cw : CWV own ix y bytes maxL ret n) (hdg : decode cc pc = .ok (.invokevirtual ix, 3))
    (hR : fr + 1 ≤ R.frames ∧ 8 + (maxL + 11) + lo ≤ R.locals ∧ ce + mc ≤ R.cells ∧ sl + ms ≤ R.slots) (hn : As.length = n) (hcat : (st.map fun v => v.category).sum ≤ 8)
    (hq : ws[q0]? = some (b, .inr (ci, fs))) (hci : vwCl[ci]? = some q) (hqn : q.1 = y.cls) (hnd : va_nd is = true) (his : is.map (fun i => ws[i]?) = w0.map some) (hlen : ∀ (v : Option Value) (u : S), post v u → is.length ≤ (w1 u).length) (hws : ∀ (v : Option Value) (u : S), post v u → putL ws is (w1 u) = ws' u)
    (st0 : List Value) (hst : st0 = As.reverse ++ .ref b :: st) (kk : ∀ (v : Option Value) (u : S), post v u → KJ l G D R nL (ce + mc) (sl + ms) (ws' u) lv (pc + 3) (v.toList ++ st)) : KJ l G D R nL ce sl ws lv pc st0 := by
  subst hst
  intro H locs ls hP hD hS hl
  have hcw : CallW R (ks G) (ka G) own y.cls ix y bytes maxL ret (.code y bytes maxL ret :: wsL_law) ({ frames := fr, cells := mc, slots := ms, locals := lo } : Room) mc ms n := ⟨callB_of n hC.wd (gAll cw.2.2.2.2.1) rfl rfl rfl (hC.wd _ cw.2.2.2.1) (hC.wd _ cw.1) cw.2.2.2.2.2 ⟨hR.1, hR.2.1⟩, hC.wd _ cw.2.1, hC.wd _ cw.2.2.1⟩
  exact kp_callK hC pc is hnd his ws' hlen hws hP hD hS hl (va_runV (As := As) (rest := st) hC.fix (hM H.size) hcw ⟨MPre.blind, by have h := va_recv hC.kk hP hci hq; rw [hqn] at h; exact h, fun U hU hW => k_pre hC is hnd his hP hD U hU hW⟩ rfl hn hl.1 rfl (lv_room hcat) hdg hR.2.2) kk
theorem kp_callS (hC : CX G D cc own nL) (pc : Nat) (is : List Nat) (ws' : S → va_W) (hM : MU l y bytes maxL ret fr lo D As w0 post w1 mc ms) (cw : CWS own ix y bytes maxL ret n) (hdg : decode cc pc = .ok (.invokestatic ix, 3))
    (hR : fr + 1 ≤ R.frames ∧ 8 + (maxL + 11) + lo ≤ R.locals ∧ ce + mc ≤ R.cells ∧ sl + ms ≤ R.slots) (hn : As.length = n) (hcat : (st.map fun v => v.category).sum ≤ 8)
    (hnd : va_nd is = true) (his : is.map (fun i => ws[i]?) = w0.map some) (hlen : ∀ (v : Option Value) (u : S), post v u → is.length ≤ (w1 u).length) (hws : ∀ (v : Option Value) (u : S), post v u → putL ws is (w1 u) = ws' u)
    (st0 : List Value) (hst : st0 = As.reverse ++ st) (kk : ∀ (v : Option Value) (u : S), post v u → KJ l G D R nL (ce + mc) (sl + ms) (ws' u) lv (pc + 3) (v.toList ++ st)) : KJ l G D R nL ce sl ws lv pc st0 := by
  subst hst
  intro H locs ls hP hD hS hl
  have hcw : CallB R (ks G) (ka G) own ix y bytes maxL ret (.code y bytes maxL ret :: wsL_law) ({ frames := fr, cells := mc, slots := ms, locals := lo } : Room) mc ms n ∧ (Cond.static y).before (ka G) (ks G) = true := ⟨callB_of n hC.wd (gAll cw.2.2.2.1) rfl rfl rfl (hC.wd _ cw.2.2.1) (hC.wd _ cw.1) cw.2.2.2.2 ⟨hR.1, hR.2.1⟩, hC.wd _ cw.2.1⟩
  exact kp_callK hC pc is hnd his ws' hlen hws hP hD hS hl (va_runS (As := As) (rest := st) hC.fix (hM H.size) hcw ⟨MPre.blind, fun U hU hW => k_pre hC is hnd his hP hD U hU hW⟩ rfl hn hl.1 rfl (lv_room hcat) hdg hR.2.2) kk
theorem fp_callSe (hC : CX G D cc own nL) (pc : Nat) (P : va_W) (ws' : S → va_W) (hM : MU l y bytes maxL ret fr lo D As w0 post w1 mc ms) (cw : CWS own ix y bytes maxL ret n) (hdg : decode cc pc = .ok (.invokestatic ix, 3))
    (hR : fr + 1 ≤ R.frames ∧ 8 + (maxL + 11) + lo ≤ R.locals ∧ ce + mc ≤ R.cells ∧ sl + ms ≤ R.slots) (hn : As.length = n) (hcat : (st.map fun v => v.category).sum ≤ 8) (hW : ws = P ++ w0 ++ []) (hL : ∀ (v : Option Value) (u : S), post v u → w0.length ≤ (w1 u).length) (hws : ∀ u, P ++ w1 u ++ [] = ws' u)
    (st0 : List Value) (hst : st0 = As.reverse ++ st) (kk : ∀ (v : Option Value) (u : S), post v u → KJ l G D R nL (ce + mc) (sl + ms) (ws' u) lv (pc + 3) (v.toList ++ st)) : KJ l G D R nL ce sl ws lv pc st0 :=
  kp_callS hC pc (List.range' P.length w0.length) ws' hM cw hdg hR hn hcat (nd_range _ _) (by rw [hW]; exact map_mid w0 P []) (fun v u hp => by rw [List.length_range']; exact hL v u hp) (fun v u hp => by rw [hW, putL_end _ _ _ (hL v u hp)]; exact hws u) st0 hst kk
theorem fp_callVe (hC : CX G D cc own nL) (pc : Nat) {b ci : Nat} {q : vw_C} {fs : List Value} (q0 : Nat) (P : va_W) (ws' : S → va_W) (hM : MU l y bytes maxL ret fr lo D (.ref b :: As) w0 post w1 mc ms) (cw : CWV own ix y bytes maxL ret n) (hdg : decode cc pc = .ok (.invokevirtual ix, 3))
    (hR : fr + 1 ≤ R.frames ∧ 8 + (maxL + 11) + lo ≤ R.locals ∧ ce + mc ≤ R.cells ∧ sl + ms ≤ R.slots) (hn : As.length = n) (hcat : (st.map fun v => v.category).sum ≤ 8) (hq : ws[q0]? = some (b, .inr (ci, fs))) (hci : vwCl[ci]? = some q) (hqn : q.1 = y.cls) (hW : ws = P ++ w0 ++ []) (hL : ∀ (v : Option Value) (u : S), post v u → w0.length ≤ (w1 u).length) (hws : ∀ u, P ++ w1 u ++ [] = ws' u)
    (st0 : List Value) (hst : st0 = As.reverse ++ .ref b :: st) (kk : ∀ (v : Option Value) (u : S), post v u → KJ l G D R nL (ce + mc) (sl + ms) (ws' u) lv (pc + 3) (v.toList ++ st)) : KJ l G D R nL ce sl ws lv pc st0 :=
  kp_callV hC pc q0 (List.range' P.length w0.length) ws' hM cw hdg hR hn hcat hq hci hqn (nd_range _ _) (by rw [hW]; exact map_mid w0 P []) (fun v u hp => by rw [List.length_range']; exact hL v u hp) (fun v u hp => by rw [hW, putL_end _ _ _ (hL v u hp)]; exact hws u) st0 hst kk
end KR
/-- the pool of the simulation's data -/
def xL (x : SX) : List Nat := x.2.2.2.2.2.2.2.2.2.2.1
theorem wSm_len (D : va_G) (m p r : Nat) (s : PS) (x : SX) : (wSm D m p r s x).length = 7 + (xL x).length := by
  obtain ⟨N, T, A, B, to, pi, fe, pl, go, hi, mi, re, lo⟩ := s
  obtain ⟨n0, n1, l0, l1, hs, hl, f0, f1, g0, g1, L, f, adr⟩ := x
  show (_ ++ va_pl L f).length = 7 + L.length
  rw [List.length_append]
  show 7 + (L.map _).length = _
  rw [List.length_map]
theorem wSm_le {D : va_G} {m p r : Nat} {s s2 : PS} {x x2 : SX} (h : (xL x).length ≤ (xL x2).length) : (wSm D m p r s x).length ≤ (wSm D m p r s2 x2).length := by
  rw [wSm_len, wSm_len]
  omega
