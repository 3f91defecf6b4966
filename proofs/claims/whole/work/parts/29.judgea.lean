/-! ROWS FOR ARRAYS OF ARRAYS OF INTS, AND CLONES -/
section KA
variable {l : Launch} {G : KX} {D : va_G} {R : Room} {cc : ByteArray} {own : String} {nL ce sl : Nat} {ws : va_W} {lv : List (Nat × Value)} {st : List Value}
theorem k_anewA (hC : CX G D cc own nL) (hAA : va_AA (ks G)) (pc n : Nat) {ix : Nat} (hdg : decode cc pc = .ok (.anewarray ix, 3)) (hw : Cond.classLink own ix "[I" ∈ wsL_law) (hn : n < 2147483648) (hb : n * 4 ≤ 536870912) (hR : ce + 1 ≤ R.cells ∧ sl + n ≤ R.slots)
    (kk : ∀ q : Nat, KJ l G D R nL (ce + 1) (sl + n) (ws ++ [(q, .inl (D.1 7, n, .inr (.inr (.inr (.inr (fun _ => none))))))]) lv (pc + 3) (.ref q :: st)) : KJ l G D R nL ce sl ws lv pc (.int (nI n) :: st) := fun H locs ls hP hD hS hl => by
  have e0 : (nI n).toNatClampNeg = n := nI_clamp hn
  have hA := (hC.kk.2 2 (D.1 7, .array .int) rfl).2
  refine W.anewA (t := .int) hC.ex hC.cd hC.on (hC.wd _ hw) hAA rfl hdg rfl (nI_pos hn) (by rw [e0]; exact hb) hR.1 (by rw [e0]; exact hR.2) fun cA kA comp f1 f2 f3 f4 => ?_
  have hcA : cA = D.1 7 := Option.some.inj (f1.symm.trans hA)
  subst hcA
  rw [e0]
  generalize hH1 : H.push ({ cls := D.1 7, slots := Array.replicate n .null, vm := .none } : Cell) = H1
  have z1 : H1.size = H.size + 1 := by rw [← hH1, Array.size_push]
  have e1 : H1[H.size]? = some (arrV (D.1 7) n (fun _ => .null)) := by rw [← hH1, Array.getElem?_push_size, ← arrV_new]
  have o1 : ∀ q : Nat, q < H.size → H1[q]? = H[q]? := fun q hq => by rw [← hH1, Array.getElem?_push, if_neg (Nat.ne_of_lt hq)]
  have hk : ∀ (k : Nat) (x : Nat × va_E), ws[k]? = some x → H1[x.1]? = H[x.1]? := fun k x hx => o1 x.1 ((hP k x hx).lt)
  refine kk H.size H1 locs ls ((hP.kept hk).app (fun k x hx => ?_)) (hD.push hP rfl (hC.nw _ hS.1)) ⟨Nat.le_trans hS.1 (by omega), fun x h1 h2 => (o1 x (Nat.lt_of_lt_of_le h1 hS.1)).trans (hS.2.1 x h1 h2), hS.2.2⟩ hl
  have hz : k < 1 := (List.getElem?_eq_some_iff.mp hx).1
  rw [show k = 0 by omega] at hx
  cases hx
  show H1[H.size]? = some (vp_cell _ _)
  rw [vp_cell_q]
  exact e1
theorem k_aald (hC : CX G D cc own nL) (pc q0 i : Nat) {a n v : Nat} {f : Nat → Option Nat} (hdg : decode cc pc = .ok (.aaload, 1)) (ha : ws[q0]? = some (a, .inl (D.1 7, n, .inr (.inr (.inr (.inr f)))))) (hi : i < n) (hn : n < 2147483648) (hv : f i = some v)
    (kk : KJ l G D R nL ce sl ws lv (pc + 1) (.ref v :: st)) : KJ l G D R nL ce sl ws lv pc (.int (nI i) :: .ref a :: st) := fun H locs ls hP hD hS hl => by
  have e0 : (nI i).toNatClampNeg = i := nI_clamp (by omega)
  refine W.aald (v := va_rf (f i)) (ty := .array .int) hC.ex hC.cd (hP q0 _ ha) ((hC.kk.2 2 (D.1 7, .array .int) rfl).1 n (fun j => va_rf (f j))) rfl (fun q => by cases q) (by show ¬ (nI i < 0 ∨ (arrV (D.1 7) n (fun j => va_rf (f j))).slots.size ≤ (nI i).toNatClampNeg); rw [arrV_size, e0]; exact fun z => z.elim (nI_pos (by omega)) (by omega)) (by show (arrV (D.1 7) n (fun j => va_rf (f j))).slots[(nI i).toNatClampNeg]? = _; rw [e0, arrV_read _ _ hi]) rfl rfl hdg ?_
  rw [hv]
  exact kk H locs ls hP hD hS hl
theorem k_aast (hC : CX G D cc own nL) (hAA : va_AA (ks G)) (pc q0 qk i : Nat) {a n v : Nat} {x : vp_A} {f : Nat → Option Nat} (ws' : va_W) (hdg : decode cc pc = .ok (.aastore, 1)) (ha : ws[q0]? = some (a, .inl (D.1 7, n, .inr (.inr (.inr (.inr f)))))) (hv : ws[qk]? = some (v, .inl (D.1 5, x))) (hi : i < n) (hn : n < 2147483648)
    (hws : ws.set q0 (a, .inl (D.1 7, n, .inr (.inr (.inr (.inr (va_up f i (some v))))))) = ws') (kk : KJ l G D R nL ce sl ws' lv (pc + 1) st) : KJ l G D R nL ce sl ws lv pc (.ref v :: .int (nI i) :: .ref a :: st) := fun H locs ls hP hD hS hl => by
  have e0 : (nI i).toNatClampNeg = i := nI_clamp (by omega)
  obtain ⟨-, kI, hkI, compI, hkindI⟩ := (hC.kk.2 0 (D.1 5, .int) rfl).1 0 (fun _ => .null)
  obtain ⟨comp0, c0, k0, g1, -, g3, g4, g5⟩ := arrayOverA_spec hAA
  have hc0 : c0 = D.1 7 := Option.some.inj (g5.symm.trans (hC.kk.2 2 (D.1 7, .array .int) rfl).2)
  subst hc0
  have hcomp : comp0 = D.1 5 := Option.some.inj (g1.symm.trans (hC.kk.2 0 (D.1 5, .int) rfl).2)
  subst hcomp
  have hcl0 : (vp_cell (D.1 5) x).cls = D.1 5 := by obtain ⟨n, f | f | f | f | f⟩ := x <;> rfl
  have hvm0 : (vp_cell (D.1 5) x).vm = .none := by obtain ⟨n, f | f | f | f | f⟩ := x <;> rfl
  have hlt : (nI i).toNatClampNeg < (arrV (D.1 7) n (fun j => va_rf (f j))).slots.size := by rw [arrV_size, e0]; exact hi
  refine W.aast hC.ex hC.cd (hP q0 _ ha) (fun q h => by cases h) (fun h => by cases h) g3 g4 rfl hkI ⟨nI_pos (by omega), hlt⟩ (hP qk _ hv) (fun q h => by rw [hvm0] at h; cases h) (by rw [hcl0]; exact hkI) (by rw [hcl0]; exact va_asg _ _) rfl rfl hdg fun H1 e z oq => ?_
  subst hws
  refine kk H1 _ ls (hP.set hD ha ?_ oq) (hD.set ha) (hS.put z oq (hD.2 q0 _ ha)) hl
  show H1[a]? = some (vp_cell _ _)
  rw [e, e0]
  rw [vp_cell_q, vp_cell_q, arrV_store]
  congr 2
  funext q
  by_cases hq : q = i
  · subst hq
    simp [updV, va_up, va_rf]
  · simp [updV, va_up, hq]
theorem k_castI (hC : CX G D cc own nL) (pc q0 : Nat) {ix a : Nat} {x : vp_A} (hdg : decode cc pc = .ok (.checkcast ix, 3)) (hw : Cond.classLink own ix "[I" ∈ wsL_law) (ha : ws[q0]? = some (a, .inl (D.1 5, x))) (kk : KJ l G D R nL ce sl ws lv (pc + 3) (.ref a :: st)) : KJ l G D R nL ce sl ws lv pc (.ref a :: st) := fun H locs ls hP hD hS hl =>
  va_castA hC.ex hC.cd hC.on (hC.wd _ hw) hP q0 ha (hC.kk.2 0 (D.1 5, .int) rfl).2 hdg (kk H locs ls hP hD hS hl)
theorem k_clone (hC : CX G D cc own nL) (pc q0 : Nat) {ix a n : Nat} {f : Nat → Int32} (hdg : decode cc pc = .ok (.invokevirtual ix, 3)) (hw : Cond.methodLink own ix ⟨"[I", "clone", "()Ljava/lang/Object;"⟩ ∈ wsL_law) (hw2 : Cond.sameMethod "[I" "java/lang/Object" "clone" "()Ljava/lang/Object;" ∈ wsL_law) (hw3 : Cond.native ⟨"java/lang/Object", "clone", "()Ljava/lang/Object;"⟩ ∈ wsL_law) (hw4 : Cond.instanceMethod ⟨"java/lang/Object", "clone", "()Ljava/lang/Object;"⟩ ∈ wsL_law) (hw5 : Cond.selects "[I" ⟨"[I", "clone", "()Ljava/lang/Object;"⟩ ⟨"java/lang/Object", "clone", "()Ljava/lang/Object;"⟩ ∈ wsL_law) (hcl : va_Nw (.castable "[I" "java/lang/Cloneable") (ks G))
    (ha : ws[q0]? = some (a, .inl (D.1 5, n, .inl f))) (hR : 1 ≤ R.frames ∧ (st.map fun v => v.category).sum + 14 ≤ R.locals ∧ ce + 1 ≤ R.cells ∧ sl + n ≤ R.slots)
    (kk : ∀ q : Nat, KJ l G D R nL (ce + 1) (sl + n) (ws ++ [(q, .inl (D.1 5, n, .inl f))]) lv (pc + 3) (.ref q :: st)) : KJ l G D R nL ce sl ws lv pc (.ref a :: st) := fun H locs ls hP hD hS hl =>
  va_clone hC.ex hC.cd (hC.ml.trans hl.1.symm) hC.on (hC.wd _ hw) (hC.wd _ hw2) (hC.wd _ hw3) (hC.wd _ hw4) (hC.wd _ hw5) hcl hC.kk hP hD hS hC.nw q0 0 ha rfl (hC.kk.2 0 (D.1 5, .int) rfl).2 (va_fit (F := fun i => .int (f i)) (fun _ _ => rfl)) hR.1 hR.2.1 hR.2.2.1 hR.2.2.2 hdg (fun q H1 _ hP1 hD1 hS1 => kk q H1 locs ls hP1 hD1 hS1 hl)
end KA
