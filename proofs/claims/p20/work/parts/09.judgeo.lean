/-! ROWS FOR ARRAYS OF REFERENCES, BOOLEAN ARRAYS, POOLS OF JARS, WORLDS IN ANOTHER ORDER, CALLS OF NEST MATES -/
section KO
variable {l : Launch} {G : KX} {D : va_G} {R : Room} {cc : ByteArray} {own : String} {nL ce sl : Nat} {ws ws' : va_W} {lv : List (Nat × Value)} {st : List Value}
abbrev qv (f : Nat → Option Nat) : (Nat → Int32) ⊕ (Nat → Int64) ⊕ (Nat → UInt32) ⊕ (Nat → UInt64) ⊕ (Nat → Option Nat) := .inr (.inr (.inr (.inr f)))
theorem va_D_nodup {A : Nat → Prop} {ws : va_W} : va_D A ws ↔ (ws.map Prod.fst).Nodup ∧ ∀ q ∈ ws, A q.1 := by
  constructor
  · intro h
    refine ⟨?_, fun q hq => ?_⟩
    · rw [List.Nodup, List.pairwise_iff_getElem]
      intro i j hi hj hij e
      rw [List.length_map] at hi hj
      rw [List.getElem_map, List.getElem_map] at e
      have := h.1 i j ws[i] ws[j] (List.getElem?_eq_getElem hi) (List.getElem?_eq_getElem hj) e
      omega
    · obtain ⟨k, hk⟩ := List.getElem?_of_mem hq
      exact h.2 k q hk
  · intro h
    refine ⟨fun i j p q hp hq e => ?_, fun k q hk => h.2 q (List.mem_of_getElem? hk)⟩
    obtain ⟨hi, rfl⟩ := List.getElem?_eq_some_iff.mp hp
    obtain ⟨hj, rfl⟩ := List.getElem?_eq_some_iff.mp hq
    have h2 := List.pairwise_iff_getElem.mp h.1
    rcases Nat.lt_trichotomy i j with z | z | z
    · exact absurd (by rw [List.getElem_map, List.getElem_map]; exact e) (h2 i j (by rw [List.length_map]; exact hi) (by rw [List.length_map]; exact hj) z)
    · exact z
    · exact absurd (by rw [List.getElem_map, List.getElem_map]; exact e.symm) (h2 j i (by rw [List.length_map]; exact hj) (by rw [List.length_map]; exact hi) z)
theorem va_P_mem {D : va_G} {cl : List vw_C} {ws : va_W} {H : Heap} : va_P D cl ws H ↔ ∀ q ∈ ws, va_at D cl q H := by
  constructor
  · intro h q hq
    obtain ⟨k, hk⟩ := List.getElem?_of_mem hq
    exact h k q hk
  · exact fun h k q hk => h q (List.mem_of_getElem? hk)
/-- the world in another order -/
theorem KJ.pm {pc : Nat} (h : ws.Perm ws') (k : KJ l G D R nL ce sl ws' lv pc st) : KJ l G D R nL ce sl ws lv pc st := fun H locs ls hP hD hS hl => by
  rw [va_P_mem] at hP
  rw [va_D_nodup] at hD
  exact k H locs ls (va_P_mem.mpr fun q hq => hP q (h.mem_iff.mpr hq)) (va_D_nodup.mpr ⟨(h.map Prod.fst).nodup_iff.mp hD.1, fun q hq => hD.2 q (h.mem_iff.mpr hq)⟩) hS hl
/-- cells forgotten -/
theorem KJ.fg {pc : Nat} (h : ws'.Sublist ws) (k : KJ l G D R nL ce sl ws' lv pc st) : KJ l G D R nL ce sl ws lv pc st := fun H locs ls hP hD hS hl => by
  rw [va_P_mem] at hP
  rw [va_D_nodup] at hD
  exact k H locs ls (va_P_mem.mpr fun q hq => hP q (h.subset hq)) (va_D_nodup.mpr ⟨hD.1.sublist (h.map Prod.fst), fun q hq => hD.2 q (h.subset hq)⟩) hS hl
/-- the last cell in the place of another -/
theorem KJ.rp {pc : Nat} (X Y : va_W) (c d : Nat × va_E) (h : ws = X ++ c :: (Y ++ [d])) (h' : X ++ d :: Y = ws') (k : KJ l G D R nL ce sl ws' lv pc st) : KJ l G D R nL ce sl ws lv pc st := by
  subst h
  subst h'
  refine KJ.pm (ws' := X ++ c :: d :: Y) ((List.Perm.cons c (List.perm_append_singleton d Y)).append_left X) (KJ.fg ?_ k)
  exact List.Sublist.append (List.Sublist.refl X) (List.sublist_cons_self c (d :: Y))
/-- the last cell, further to the front -/
theorem KJ.mv {pc : Nat} (X Y : va_W) (d : Nat × va_E) (h : ws = X ++ (Y ++ [d])) (h' : X ++ d :: Y = ws') (k : KJ l G D R nL ce sl ws' lv pc st) : KJ l G D R nL ce sl ws lv pc st := by
  subst h
  subst h'
  exact KJ.pm ((List.perm_append_singleton d Y).append_left X) k
/-- a cell forgotten -/
theorem KJ.dr {pc : Nat} (X Y : va_W) (d : Nat × va_E) (h : ws = X ++ d :: Y) (h' : X ++ Y = ws') (k : KJ l G D R nL ce sl ws' lv pc st) : KJ l G D R nL ce sl ws lv pc st := by
  subst h
  subst h'
  exact KJ.fg (List.Sublist.append (List.Sublist.refl X) (List.sublist_cons_self d Y)) k
/-- the last cell, into the pool -/
theorem KJ.ps {pc : Nat} (X : va_W) {L : List Nat} {f : Nat → va_E} {q : Nat} {e : va_E} (h : ws = X ++ (va_pl L f ++ [(q, e)])) (k : q ∉ L → KJ l G D R nL ce sl (X ++ va_pl (L ++ [q]) (va_up f q e)) lv pc st) : KJ l G D R nL ce sl ws lv pc st := fun H locs ls hP hD hS hl => by
  subst h
  have hq : q ∉ L := va_pl_fresh2 (X := X) (f := f) (e := e) (by rw [List.append_assoc]; exact hD)
  have e0 : X ++ (va_pl L f ++ [(q, e)]) = X ++ va_pl (L ++ [q]) (va_up f q e) := by rw [va_pl_push hq]
  rw [e0] at hP hD
  exact k hq H locs ls hP hD hS hl
theorem pl_mem {L : List Nat} {f : Nat → va_E} {a : Nat} {e : va_E} (h : a ∈ L) (he : f a = e) : (a, e) ∈ va_pl L f := List.mem_map.mpr ⟨a, h, by rw [he]⟩
/-- a field, by the cell -/
theorem m_getf (hC : CX G D cc own nL) (pc : Nat) {ix ci N a : Nat} {C : String} {T : u_T} {fs : List Value} (k : Nat) {v : Value} (hdg : decode cc pc = .ok (.getfield ix, 3)) (he : (a, .inr (ci, fs)) ∈ ws) (hc : vwCl[ci]? = some (C, T, N)) (hin : ∀ w ∈ u_ws C T N, w ∈ wsL_law) (hk : k < N) (hw : Cond.fieldLink own ix (T k).1 (T k).2.1 (T k).2.2.1 ∈ wsL_law) (hv : fs[k]? = some v) (kk : KJ l G D R nL ce sl ws lv (pc + 3) (v :: st)) : KJ l G D R nL ce sl ws lv pc (.ref a :: st) := by
  obtain ⟨q0, h0⟩ := List.getElem?_of_mem he
  exact k_getf hC pc q0 k hdg h0 hc hin hk hw hv kk
/-- a field of a jar of the pool is written -/
theorem p_putf (hC : CX G D cc own nL) (pc : Nat) (X : va_W) {L : List Nat} {f : Nat → va_E} {ix a : Nat} {fs : List Value} (k : Nat) {v : Value} (ws' : va_W) (hdg : decode cc pc = .ok (.putfield ix, 3)) (hX : ws = X ++ va_pl L f) (ha : a ∈ L) (he : f a = .inr (4, fs)) (hk : k < 4) (hw : Cond.fieldLink own ix (TX4 k).1 (TX4 k).2.1 (TX4 k).2.2.1 ∈ wsL_law) (hfin : (TX4 k).2.2.2 = false) (hn : narrow (tyX4 k) v = v) (hfit : fits (tyX4 k) v = true) (hl0 : k < fs.length) (hws : X ++ va_pl L (va_up f a (.inr (4, fs.set k v))) = ws') (kk : KJ l G D R nL ce sl ws' lv (pc + 3) st) : KJ l G D R nL ce sl ws lv pc (v :: .ref a :: st) := by
  subst hX
  obtain ⟨q0, h0⟩ := va_pl_get (X := X) (f := f) ha
  intro H locs ls hP hD hS hl
  have h1 := h0
  rw [he] at h1
  exact k_putf hC pc q0 (C := RX4) (T := TX4) (N := 4) (ty0 := tyX4) k _ hdg h1 rfl inlX4 tyX4_ok nmX4 hk hw hfin hn hfit hl0 ((va_pl_set hD ha h0).trans hws) kk H locs ls hP hD hS hl
/-- .. and where it is final: in the constructor -/
theorem p_putfF (hC : CX G D cc own nL) (pc : Nat) (X : va_W) {L : List Nat} {f : Nat → va_E} {ix a : Nat} {fs : List Value} (k : Nat) {v : Value} (ws' : va_W) (hdg : decode cc pc = .ok (.putfield ix, 3)) (hX : ws = X ++ va_pl L f) (ha : a ∈ L) (he : f a = .inr (4, fs)) (hk : k < 4) (hw : Cond.fieldLink own ix (TX4 k).1 (TX4 k).2.1 (TX4 k).2.2.1 ∈ wsL_law) (hfin : (TX4 k).2.2.2 = true) (hinit : (kme G).name = "<init>") (hdecl : (TX4 k).1 = own) (hn : narrow (tyX4 k) v = v) (hfit : fits (tyX4 k) v = true) (hl0 : k < fs.length) (hws : X ++ va_pl L (va_up f a (.inr (4, fs.set k v))) = ws') (kk : KJ l G D R nL ce sl ws' lv (pc + 3) st) : KJ l G D R nL ce sl ws lv pc (v :: .ref a :: st) := by
  subst hX
  obtain ⟨q0, h0⟩ := va_pl_get (X := X) (f := f) ha
  intro H locs ls hP hD hS hl
  have h1 := h0
  rw [he] at h1
  exact k_putfF hC pc q0 (C := RX4) (T := TX4) (N := 4) (ty0 := tyX4) k _ hdg h1 rfl inlX4 tyX4_ok nmX4 hk hw hfin hinit hdecl hn hfit hl0 ((va_pl_set hD ha h0).trans hws) kk H locs ls hP hD hS hl
/-- a new array of jars -/
theorem k_anewJ (hC : CX G D cc own nL) (pc n : Nat) {ix : Nat} (hdg : decode cc pc = .ok (.anewarray ix, 3)) (hw : Cond.classLink own ix RX4 ∈ wsL_law) (hn : n < 2147483648) (hb : n * 4 ≤ 536870912) (hR : ce + 1 ≤ R.cells ∧ sl + n ≤ R.slots)
    (kk : ∀ q : Nat, KJ l G D R nL (ce + 1) (sl + n) (ws ++ [(q, .inl (D.1 22, n, qv (fun _ => none)))]) lv (pc + 3) (.ref q :: st)) : KJ l G D R nL ce sl ws lv pc (.int (nI n) :: st) := fun H locs ls hP hD hS hl => by
  refine va_newq hC.ex hC.cd hC.on (hC.wd _ hw) hC.kt.2.2.2.2.2.2.2.1 hC.kk hP hD hS hC.nw (nI_pos hn) (nI_clamp hn) hb hR.1 hR.2 hdg (fun q cA H1 hK1 hP1 hD1 hS1 => ?_)
  obtain ⟨kA, comp, -, -, -, e1⟩ := (hK1.2 5 (cA, .object RX4) rfl).2
  obtain ⟨kA2, comp2, -, -, -, e2⟩ := (hC.kk.2 2 (D.1 22, .object RX4) rfl).2
  have e : cA = D.1 22 := Option.some.inj (e1.symm.trans e2)
  subst e
  exact kk q H1 locs ls hP1 hD1 hS1 hl
/-- a new array of arrays -/
theorem k_anewA (hC : CX G D cc own nL) (pc n : Nat) {ix : Nat} {t : FieldType} {cA : ClassId} {S : String} (t0 : Nat) (ht : (kty D)[t0]? = some (cA, .array t)) (hAA : va_AA t (ks G)) (hS0 : (FieldType.array t).toString = S) (hdg : decode cc pc = .ok (.anewarray ix, 3)) (hw : Cond.classLink own ix S ∈ wsL_law) (hn : n < 2147483648) (hb : n * 4 ≤ 536870912) (hR : ce + 1 ≤ R.cells ∧ sl + n ≤ R.slots)
    (kk : ∀ q : Nat, KJ l G D R nL (ce + 1) (sl + n) (ws ++ [(q, .inl (cA, n, qv (fun _ => none)))]) lv (pc + 3) (.ref q :: st)) : KJ l G D R nL ce sl ws lv pc (.int (nI n) :: st) := fun H locs ls hP hD hS hl => by
  have e0 : (nI n).toNatClampNeg = n := nI_clamp hn
  subst hS0
  have hA : (ks G).vm.findClass ("[" ++ (FieldType.array t).toString) = some cA := (hC.kk.2 t0 _ ht).2
  refine W.anewA (t := t) hC.ex hC.cd hC.on (hC.wd _ hw) hAA rfl hdg rfl (nI_pos hn) (by rw [e0]; exact hb) hR.1 (by rw [e0]; exact hR.2) fun cA2 kA comp f1 f2 f3 f4 => ?_
  have hcA : cA2 = cA := Option.some.inj (f1.symm.trans hA)
  subst hcA
  rw [e0]
  generalize hH1 : H.push ({ cls := cA2, slots := Array.replicate n .null, vm := .none } : Cell) = H1
  have z1 : H1.size = H.size + 1 := by rw [← hH1, Array.size_push]
  have e1 : H1[H.size]? = some (arrV cA2 n (fun _ => .null)) := by rw [← hH1, Array.getElem?_push_size, ← arrV_new]
  have o1 : ∀ q : Nat, q < H.size → H1[q]? = H[q]? := fun q hq => by rw [← hH1, Array.getElem?_push, if_neg (Nat.ne_of_lt hq)]
  have hk : ∀ (k : Nat) (x : Nat × va_E), ws[k]? = some x → H1[x.1]? = H[x.1]? := fun k x hx => o1 x.1 ((hP k x hx).lt)
  refine kk H.size H1 locs ls ((hP.kept hk).app (fun k x hx => ?_)) (hD.push hP rfl (hC.nw _ hS.1)) ⟨Nat.le_trans hS.1 (by omega), fun x h1 h2 => (o1 x (Nat.lt_of_lt_of_le h1 hS.1)).trans (hS.2.1 x h1 h2), hS.2.2⟩ hl
  have hz : k < 1 := (List.getElem?_eq_some_iff.mp hx).1
  rw [show k = 0 by omega] at hx
  cases hx
  show H1[H.size]? = some (vp_cell _ _)
  rw [vp_cell_q]
  exact e1
/-- an element that is a reference -/
theorem k_aald (hC : CX G D cc own nL) (pc q0 i t0 : Nat) {a n v : Nat} {cA : ClassId} {ty : FieldType} {f : Nat → Option Nat} (hdg : decode cc pc = .ok (.aaload, 1)) (ha : ws[q0]? = some (a, .inl (cA, n, qv f))) (ht : (kty D)[t0]? = some (cA, ty)) (hty : ty.isReference = true) (hi : i < n) (hn : n < 2147483648) (hv : f i = some v)
    (kk : KJ l G D R nL ce sl ws lv (pc + 1) (.ref v :: st)) : KJ l G D R nL ce sl ws lv pc (.int (nI i) :: .ref a :: st) := fun H locs ls hP hD hS hl => by
  have e0 : (nI i).toNatClampNeg = i := nI_clamp (by omega)
  refine W.aald (v := va_rf (f i)) (ty := ty) hC.ex hC.cd (hP q0 _ ha) ((hC.kk.2 t0 _ ht).1 n (fun j => va_rf (f j))) hty (fun q => by cases q) (by show ¬ (nI i < 0 ∨ (arrV cA n (fun j => va_rf (f j))).slots.size ≤ (nI i).toNatClampNeg); rw [arrV_size, e0]; exact fun z => z.elim (nI_pos (by omega)) (by omega)) (by show (arrV cA n (fun j => va_rf (f j))).slots[(nI i).toNatClampNeg]? = _; rw [e0, arrV_read _ _ hi]) rfl rfl hdg ?_
  rw [hv]
  exact kk H locs ls hP hD hS hl
/-- a jar into an array of jars -/
theorem k_astJ (hC : CX G D cc own nL) (pc q0 i : Nat) {a n v : Nat} {fs : List Value} {f : Nat → Option Nat} (ws' : va_W) (hdg : decode cc pc = .ok (.aastore, 1)) (ha : ws[q0]? = some (a, .inl (D.1 22, n, qv f))) (hv : (v, .inr (4, fs)) ∈ ws) (hi : i < n) (hn : n < 2147483648)
    (hws : ws.set q0 (a, .inl (D.1 22, n, qv (va_up f i (some v)))) = ws') (kk : KJ l G D R nL ce sl ws' lv (pc + 1) st) : KJ l G D R nL ce sl ws lv pc (.ref v :: .int (nI i) :: .ref a :: st) := fun H locs ls hP hD hS hl => by
  have e0 : (nI i).toNatClampNeg = i := nI_clamp (by omega)
  obtain ⟨qk, hk⟩ := List.getElem?_of_mem hv
  refine va_astq (r := (RX4, TX4, 4)) hC.ex hC.cd hC.kk hP hD hS q0 2 qk 4 ha rfl hk rfl (vp_in_nI hi hn) hdg (fun H1 locs1 hP1 hD1 hS1 => ?_)
  rw [e0, hws] at hP1 hD1
  exact kk H1 locs1 ls hP1 hD1 hS1 hl
/-- an array into an array of arrays: t is what its own cells are -/
theorem k_astA (hC : CX G D cc own nL) (pc q0 qk i : Nat) {t : FieldType} {cA cB : ClassId} (t0 t1 : Nat) {a n v : Nat} {x : vp_A} {f : Nat → Option Nat} (ws' : va_W) (hAA : va_AA t (ks G)) (ht : (kty D)[t0]? = some (cA, .array t)) (ht1 : (kty D)[t1]? = some (cB, t)) (hcB : (ks G).vm.findClass (FieldType.array t).toString = some cB) (hdg : decode cc pc = .ok (.aastore, 1)) (ha : ws[q0]? = some (a, .inl (cA, n, qv f))) (hv : ws[qk]? = some (v, .inl (cB, x))) (hi : i < n) (hn : n < 2147483648)
    (hws : ws.set q0 (a, .inl (cA, n, qv (va_up f i (some v)))) = ws') (kk : KJ l G D R nL ce sl ws' lv (pc + 1) st) : KJ l G D R nL ce sl ws lv pc (.ref v :: .int (nI i) :: .ref a :: st) := fun H locs ls hP hD hS hl => by
  have e0 : (nI i).toNatClampNeg = i := nI_clamp (by omega)
  obtain ⟨-, kI, hkI, compI, hkindI⟩ := (hC.kk.2 t1 (cB, t) ht1).1 0 (fun _ => .null)
  obtain ⟨comp0, c0, k0, g1, -, g3, g4, g5⟩ := arrayOverA_spec hAA
  have hA : (ks G).vm.findClass ("[" ++ (FieldType.array t).toString) = some cA := (hC.kk.2 t0 _ ht).2
  have hc0 : c0 = cA := Option.some.inj (g5.symm.trans hA)
  subst hc0
  have hcomp : comp0 = cB := Option.some.inj (g1.symm.trans hcB)
  subst hcomp
  have hcl0 : (vp_cell comp0 x).cls = comp0 := by obtain ⟨n, f | f | f | f | f⟩ := x <;> rfl
  have hvm0 : (vp_cell comp0 x).vm = .none := by obtain ⟨n, f | f | f | f | f⟩ := x <;> rfl
  have hlt : (nI i).toNatClampNeg < (arrV c0 n (fun j => va_rf (f j))).slots.size := by rw [arrV_size, e0]; exact hi
  refine W.aast hC.ex hC.cd (hP q0 _ ha) (fun q h => by cases h) (fun h => by cases h) g3 g4 rfl hkI ⟨nI_pos (by omega), hlt⟩ (hP qk _ hv) (fun q h => by rw [hvm0] at h; cases h) (by rw [hcl0]; exact hkI) (by rw [hcl0]; exact va_asg _ _) rfl rfl hdg fun H1 e z oq => ?_
  subst hws
  refine kk H1 _ ls (hP.set hD ha ?_ oq) (hD.set ha) (hS.put z oq (hD.2 q0 _ ha)) hl
  show H1[a]? = some (vp_cell _ _)
  rw [e, e0]
  rw [vp_cell_q, vp_cell_q, arrV_store]
  congr 2
  funext q
  by_cases hq : q = i
  · subst hq
    simp [updV, va_up, va_rf]
  · simp [updV, va_up, hq]
theorem fcI (hC : CX G D cc own nL) : (ks G).vm.findClass (FieldType.array .int).toString = some (D.1 20) := (hC.kk.2 0 (D.1 20, .int) rfl).2
theorem fcJ (hC : CX G D cc own nL) : (ks G).vm.findClass (FieldType.array (.object RX4)).toString = some (D.1 22) := by
  obtain ⟨kA2, comp2, -, -, -, e2⟩ := (hC.kk.2 2 (D.1 22, .object RX4) rfl).2
  exact e2
/-- booleans -/
theorem k_newarrZ (hC : CX G D cc own nL) (pc N : Nat) (hw : Cond.arrayClass .boolean ∈ wsL_law) (hdg : decode cc pc = .ok (.newarray .boolean, 2)) (hN : N < 2147483648) (hb : N * 1 ≤ 536870912) (hR : ce + 1 ≤ R.cells ∧ sl + N ≤ R.slots) (kk : ∀ q : Nat, KJ l G D R nL (ce + 1) (sl + N) (ws ++ [(q, .inl (D.1 21, N, .inl (fun _ => 0)))]) lv (pc + 2) (.ref q :: st)) : KJ l G D R nL ce sl ws lv pc (.int (nI N) :: st) := fun H locs ls hP hD hS hl => by
  refine va_newa (atype := .boolean) (ty := .boolean) (a0 := (N, .inl (fun _ => 0))) hC.ex hC.cd (hC.wd (.arrayClass .boolean) hw) rfl hC.kk hP hD hS hC.nw (fun _ => rfl) (fun h => absurd (nI_pos' hN) (by intro h2; exact (Int32.not_lt.mpr h2) h)) (nI_clamp hN) hb hR.1 hR.2 hdg (fun q cA H1 hK1 hP1 hD1 hS1 => ?_)
  have e1 : (ks G).vm.findClass ("[" ++ FieldType.boolean.toString) = some cA := (hK1.2 5 (cA, .boolean) rfl).2
  have e2 : (ks G).vm.findClass ("[" ++ FieldType.boolean.toString) = some (D.1 21) := (hC.kk.2 1 (D.1 21, .boolean) rfl).2
  have e : cA = D.1 21 := Option.some.inj (e1.symm.trans e2)
  subst e
  exact kk q H1 locs ls hP1 hD1 hS1 hl
theorem n_zald (hC : CX G D cc own nL) (pc : Nat) {a n i : Nat} {f : Nat → Int32} (q0 : Nat) (v : Int32) (hdg : decode cc pc = .ok (.baload, 1)) (ha : ws[q0]? = some (a, .inl (D.1 21, n, .inl f))) (hi : i < n) (hn : n < 2147483648) (hv : f i = v) (kk : KJ l G D R nL ce sl ws lv (pc + 1) (.int v :: st)) : KJ l G D R nL ce sl ws lv pc (.int (nI i) :: .ref a :: st) := fun H locs ls hP hD hS hl =>
  va_zald hC.ex hC.cd hC.kk hP q0 1 ha rfl (vp_in_nI hi hn) hdg (by rw [nI_clamp (by omega), hv]; exact kk H locs ls hP hD hS hl)
theorem n_zast (hC : CX G D cc own nL) (pc : Nat) {a n i : Nat} {f : Nat → Int32} {x : Int32} (q0 : Nat) (ws' : va_W) (hdg : decode cc pc = .ok (.bastore, 1)) (ha : ws[q0]? = some (a, .inl (D.1 21, n, .inl f))) (hi : i < n) (hn : n < 2147483648) (hx : vp_nar .boolean x = x) (hws : ws.set q0 (a, .inl (D.1 21, n, .inl (upd f i x))) = ws') (kk : KJ l G D R nL ce sl ws' lv (pc + 1) st) : KJ l G D R nL ce sl ws lv pc (.int x :: .int (nI i) :: .ref a :: st) := fun H locs ls hP hD hS hl =>
  va_zast hC.ex hC.cd hC.kk hP hD hS q0 1 ha rfl (vp_in_nI hi hn) hdg (fun H1 locs1 hP1 hD1 hS1 => by
    rw [nI_clamp (by omega), hx, hws] at hP1 hD1
    exact kk H1 locs1 ls hP1 hD1 hS1 hl)
/-- null, and references compared -/
theorem k_null (hC : CX G D cc own nL) (pc : Nat) (hdg : decode cc pc = .ok (.aconst_null, 1)) (k : KJ l G D R nL ce sl ws lv (pc + 1) (.null :: st)) : KJ l G D R nL ce sl ws lv pc st := fun H locs ls hP hD hS hl => lv_null hC.ex hC.cd hdg (k H locs ls hP hD hS hl)
theorem k_ifnonnull (hC : CX G D cc own nL) (pc : Nat) {x : Nat} {off : Int} (tgt : Nat) (hdg : decode cc pc = .ok (.ifnonnull off, 3)) (ht : (pc : Int) + off = (tgt : Int)) (k : KJ l G D R nL ce sl ws lv tgt st) : KJ l G D R nL ce sl ws lv pc (.ref x :: st) := fun H locs ls hP hD hS hl => lv_ifnonnull hC.ex hC.cd hdg ht (k H locs ls hP hD hS hl)
theorem k_ifnull (hC : CX G D cc own nL) (pc : Nat) {x : Nat} {off : Int} (hdg : decode cc pc = .ok (.ifnull off, 3)) (k : KJ l G D R nL ce sl ws lv (pc + 3) st) : KJ l G D R nL ce sl ws lv pc (.ref x :: st) := fun H locs ls hP hD hS hl => lv_ifnull hC.ex hC.cd hdg (k H locs ls hP hD hS hl)
theorem k_ifnullN (hC : CX G D cc own nL) (pc : Nat) {off : Int} (tgt : Nat) (hdg : decode cc pc = .ok (.ifnull off, 3)) (ht : (pc : Int) + off = (tgt : Int)) (k : KJ l G D R nL ce sl ws lv tgt st) : KJ l G D R nL ce sl ws lv pc (.null :: st) := fun H locs ls hP hD hS hl => lv_ifnullN hC.ex hC.cd hdg ht (k H locs ls hP hD hS hl)
theorem k_ifnonnullN (hC : CX G D cc own nL) (pc : Nat) {off : Int} (hdg : decode cc pc = .ok (.ifnonnull off, 3)) (k : KJ l G D R nL ce sl ws lv (pc + 3) st) : KJ l G D R nL ce sl ws lv pc (.null :: st) := fun H locs ls hP hD hS hl => lv_ifnonnullN hC.ex hC.cd hdg (k H locs ls hP hD hS hl)
theorem k_ishr (hC : CX G D cc own nL) (pc : Nat) {x y : Int32} (hdg : decode cc pc = .ok (.ishr, 1)) (k : KJ l G D R nL ce sl ws lv (pc + 1) (.int (x >>> (y &&& 31)) :: st)) : KJ l G D R nL ce sl ws lv pc (.int y :: .int x :: st) := fun H locs ls hP hD hS hl => lv_ishr hC.ex hC.cd hdg (k H locs ls hP hD hS hl)
theorem k_ineg (hC : CX G D cc own nL) (pc : Nat) {x : Int32} (hdg : decode cc pc = .ok (.ineg, 1)) (k : KJ l G D R nL ce sl ws lv (pc + 1) (.int (-x) :: st)) : KJ l G D R nL ce sl ws lv pc (.int x :: st) := fun H locs ls hP hD hS hl => lv_ineg hC.ex hC.cd hdg (k H locs ls hP hD hS hl)
theorem k_aloadN_n (hC : CX G D cc own nL) (pc : Nat) {k0 : Fin 4} (hdg : decode cc pc = .ok (.aload_n k0, 1)) (hg : lvg lv (k0 : Nat) = some .null) (k : KJ l G D R nL ce sl ws lv (pc + 1) (.null :: st)) : KJ l G D R nL ce sl ws lv pc (st) := fun H locs ls hP hD hS hl => lv_aload_nN hC.ex hC.cd hdg rfl (lvg_at hl hg) (k H locs ls hP hD hS hl)
theorem k_aloadN (hC : CX G D cc own nL) (pc : Nat) {i0 : Nat} (hdg : decode cc pc = .ok (.aload i0, 2)) (hg : lvg lv i0 = some .null) (k : KJ l G D R nL ce sl ws lv (pc + 2) (.null :: st)) : KJ l G D R nL ce sl ws lv pc (st) := fun H locs ls hP hD hS hl => lv_aloadN hC.ex hC.cd hdg (lvg_at hl hg) (k H locs ls hP hD hS hl)
theorem k_astore_nN (hC : CX G D cc own nL) (pc : Nat) {k0 : Fin 4} (i1 : Nat) (lv' : List (Nat × Value)) (hdg : decode cc pc = .ok (.astore_n k0, 1)) (hi : (k0 : Nat) = i1) (hn : i1 < nL) (he : (i1, Value.null) :: lv.filter (fun q => !(q.1 == i1) && !(q.1 + 1 == i1 && q.2.category == 2)) = lv') (k : KJ l G D R nL ce sl ws lv' (pc + 1) st) : KJ l G D R nL ce sl ws lv pc (.null :: st) := fun H locs ls hP hD hS hl => lv_astore_nN hC.ex hC.cd hdg hi hl hn he (fun ls' hl' => k H locs ls' hP hD hS hl')
theorem k_astoreN (hC : CX G D cc own nL) (pc : Nat) (i1 : Nat) (lv' : List (Nat × Value)) (hdg : decode cc pc = .ok (.astore i1, 2)) (hn : i1 < nL) (he : (i1, Value.null) :: lv.filter (fun q => !(q.1 == i1) && !(q.1 + 1 == i1 && q.2.category == 2)) = lv') (k : KJ l G D R nL ce sl ws lv' (pc + 2) st) : KJ l G D R nL ce sl ws lv pc (.null :: st) := fun H locs ls hP hD hS hl => lv_astoreN hC.ex hC.cd hdg hl hn he (fun ls' hl' => k H locs ls' hP hD hS hl')
theorem k_acmp_eq (hC : CX G D cc own nL) (pc : Nat) {x y : Nat} {off : Int} (tgt : Nat) (hdg : decode cc pc = .ok (.if_acmp .eq off, 3)) (ht : (pc : Int) + off = (tgt : Int)) (kt : x = y → KJ l G D R nL ce sl ws lv tgt st) (kf : ¬ x = y → KJ l G D R nL ce sl ws lv (pc + 3) st) : KJ l G D R nL ce sl ws lv pc (.ref y :: .ref x :: st) := fun H locs ls hP hD hS hl => lv_acmp_eq (rx := some x) (ry := some y) hC.ex hC.cd hdg ht (fun h => kt (Option.some.inj h) H locs ls hP hD hS hl) (fun h => kf (fun z => h (congrArg some z)) H locs ls hP hD hS hl)
theorem k_acmp_ne (hC : CX G D cc own nL) (pc : Nat) {x y : Nat} {off : Int} (tgt : Nat) (hdg : decode cc pc = .ok (.if_acmp .ne off, 3)) (ht : (pc : Int) + off = (tgt : Int)) (kt : ¬ x = y → KJ l G D R nL ce sl ws lv tgt st) (kf : x = y → KJ l G D R nL ce sl ws lv (pc + 3) st) : KJ l G D R nL ce sl ws lv pc (.ref y :: .ref x :: st) := fun H locs ls hP hD hS hl => lv_acmp_ne (rx := some x) (ry := some y) hC.ex hC.cd hdg ht (fun h => kt (fun z => h (congrArg some z)) H locs ls hP hD hS hl) (fun h => kf (Option.some.inj h) H locs ls hP hD hS hl)
end KO
section KP
variable {S : Type} {l : Launch} {G : KX} {D : va_G} {R : Room} {cc : ByteArray} {own : String} {nL ce sl : Nat} {ws : va_W} {lv : List (Nat × Value)} {st : List Value}
variable {y : MethodName} {bytes : ByteArray} {maxL : Nat} {ret : Option FieldType} {fr lo : Nat} {w0 : va_W} {post : Option Value → S → Prop} {w1 : S → va_W} {mc ms n ix : Nat} {As : List Value}
/-- what a call of a nest mate needs of the tables: static, constructor -/
def CNS (y : MethodName) (bytes : ByteArray) (maxL : Nat) (ret : Option FieldType) (n : Nat) : Prop :=
  Cond.static y ∈ wsL_law ∧ Cond.initialized y.cls ∈ wsL_law ∧ Cond.code y bytes maxL ret ∈ wsL_law ∧ (y.cls ≠ "java/lang/invoke/MethodHandle" ∧ y.cls ≠ "java/lang/invoke/VarHandle" ∧ (parseMethodDescriptor y.desc).map (fun d => d.parameters.length) = some n)
theorem k_callSN (hC : CX G D cc own nL) (pc : Nat) (is : List Nat) (ws' : S → va_W) (hM : MU l y bytes maxL ret fr lo D As w0 post w1 mc ms) (hnest : va_Nw (.methodLinkNest own ix y RL) (ks G)) (cw : CNS y bytes maxL ret n) (hdg : decode cc pc = .ok (.invokestatic ix, 3))
    (hR : fr + 1 ≤ R.frames ∧ 8 + (maxL + 11) + lo ≤ R.locals ∧ ce + mc ≤ R.cells ∧ sl + ms ≤ R.slots) (hn : As.length = n) (hcat : (st.map fun v => v.category).sum ≤ 8)
    (hnd : va_nd is = true) (his : is.map (fun i => ws[i]?) = w0.map some) (hlen : ∀ u, is.length ≤ (w1 u).length) (hws : ∀ u, putL ws is (w1 u) = ws' u)
    (st0 : List Value) (hst : st0 = As.reverse ++ st) (kk : ∀ (v : Option Value) (u : S), post v u → KJ l G D R nL (ce + mc) (sl + ms) (ws' u) lv (pc + 3) (v.toList ++ st)) : KJ l G D R nL ce sl ws lv pc st0 := by
  subst hst
  intro H locs ls hP hD hS hl
  have hcw := va_cnB (own := own) (host := RL) (index := ix) (s := ks G) (args := ka G) (R := R) (rm := ({ frames := fr, cells := mc, slots := ms, locals := lo } : Room)) (mc := mc) (ms := ms) (ws := .code y bytes maxL ret :: wsL_law) n hC.wd (gAll cw.2.2.1) rfl rfl rfl hnest (hC.wd _ cw.2.1) cw.2.2.2 ⟨hR.1, hR.2.1⟩
  exact k_callK hC pc is hnd his ws' hlen hws hP hD hS hl (va_runSN (As := As) (rest := st) hC.fix (hM H.size) ⟨hcw, hC.wd _ cw.1, trivial⟩ ⟨MPre.blind, fun U hU hW => k_pre hC is hnd his hP hD U hU hW⟩ rfl hn hl.1 rfl (lv_room hcat) hdg hR.2.2) kk
def CNI (y : MethodName) (bytes : ByteArray) (maxL : Nat) (n : Nat) : Prop :=
  Cond.instanceMethod y ∈ wsL_law ∧ Cond.initialized y.cls ∈ wsL_law ∧ Cond.code y bytes maxL none ∈ wsL_law ∧ y.name = "<init>" ∧ (y.cls ≠ "java/lang/invoke/MethodHandle" ∧ y.cls ≠ "java/lang/invoke/VarHandle" ∧ (parseMethodDescriptor y.desc).map (fun d => d.parameters.length) = some n)
theorem k_callIN (hC : CX G D cc own nL) (pc : Nat) {b : Nat} (is : List Nat) (ws' : S → va_W) (hM : MU l y bytes maxL none fr lo D (.ref b :: As) w0 post w1 mc ms) (hnest : va_Nw (.methodLinkNest own ix y RL) (ks G)) (cw : CNI y bytes maxL n) (hdg : decode cc pc = .ok (.invokespecial ix, 3))
    (hR : fr + 1 ≤ R.frames ∧ 8 + (maxL + 11) + lo ≤ R.locals ∧ ce + mc ≤ R.cells ∧ sl + ms ≤ R.slots) (hn : As.length = n) (hcat : (st.map fun v => v.category).sum ≤ 8)
    (hnd : va_nd is = true) (his : is.map (fun i => ws[i]?) = w0.map some) (hlen : ∀ u, is.length ≤ (w1 u).length) (hws : ∀ u, putL ws is (w1 u) = ws' u)
    (st0 : List Value) (hst : st0 = As.reverse ++ .ref b :: st) (kk : ∀ (v : Option Value) (u : S), post v u → KJ l G D R nL (ce + mc) (sl + ms) (ws' u) lv (pc + 3) (v.toList ++ st)) : KJ l G D R nL ce sl ws lv pc st0 := by
  subst hst
  intro H locs ls hP hD hS hl
  have hcw := va_cnB (own := own) (host := RL) (index := ix) (s := ks G) (args := ka G) (R := R) (rm := ({ frames := fr, cells := mc, slots := ms, locals := lo } : Room)) (mc := mc) (ms := ms) (ws := .code y bytes maxL none :: wsL_law) n hC.wd (gAll cw.2.2.1) rfl rfl rfl hnest (hC.wd _ cw.2.1) cw.2.2.2.2 ⟨hR.1, hR.2.1⟩
  exact k_callK hC pc is hnd his ws' hlen hws hP hD hS hl (va_runIN (As := As) (rest := st) hC.fix (hM H.size) ⟨hcw, cw.2.2.2.1, hC.wd _ cw.1⟩ ⟨MPre.blind, fun U hU hW => k_pre hC is hnd his hP hD U hU hW⟩ rfl hn hl.1 rfl (lv_room hcat) hdg hR.2.2) kk
end KP
