/-! PinnedPantry$Store: bring, where it cannot be fetched: nothing is changed -/
set_option maxHeartbeats 4000000 in
set_option maxRecDepth 100000 in
/-- bring, refused -/
theorem c_X1_bring_no (l : Launch) (D : va_G) (a : Nat → Nat) (N T A B : List Nat) (to pi : Nat → Nat) (fe : Nat → Int32) (pl go : Nat) (hi mi re lo : Int32) (g0 g1 g2 g3 g4 g5 g6 : Nat → Int32) (k : Nat) (hS : SR (N, T, A, B, to, pi, fe, pl, go, hi, mi, re, lo) (g0, g1, g2, g3, g4, g5, g6)) (hW : WF (N, T, A, B, to, pi, fe, pl, go, hi, mi, re, lo)) (hk : k < 40) (ho : oc (N, T, A, B, to, pi, fe, pl, go, hi, mi, re, lo) k = 4) : MU l yX1_bring cX1_bring 3 (some .int) 4 91 D [.ref (a 0), .int (nI k)] [((a 0), .inr (1, [.ref (a 1), .ref (a 3), .ref (a 5), .ref (a 7), .ref (a 9), .ref (a 11), .ref (a 13), .int (nI pl), .int (nI go), .int hi, .int mi, .int re, .int lo])), ((a 1), .inr (0, [.ref (a 2), .int (nI N.length)])), ((a 2), .inl (D.1 20, 40, .inl g0)), ((a 3), .inr (0, [.ref (a 4), .int (nI T.length)])), ((a 4), .inl (D.1 20, 40, .inl g1)), ((a 5), .inr (0, [.ref (a 6), .int (nI A.length)])), ((a 6), .inl (D.1 20, 40, .inl g2)), ((a 7), .inr (0, [.ref (a 8), .int (nI B.length)])), ((a 8), .inl (D.1 20, 40, .inl g3)), ((a 9), .inr (2, [.ref (a 10)])), ((a 10), .inl (D.1 20, 40, .inl g4)), ((a 11), .inr (2, [.ref (a 12)])), ((a 12), .inl (D.1 20, 40, .inl g5)), ((a 13), .inr (2, [.ref (a 14)])), ((a 14), .inl (D.1 20, 40, .inl g6))] (fun v (_ : Unit) => v = some (.int (-9))) (fun _ => [((a 0), .inr (1, [.ref (a 1), .ref (a 3), .ref (a 5), .ref (a 7), .ref (a 9), .ref (a 11), .ref (a 13), .int (nI pl), .int (nI go), .int hi, .int mi, .int re, .int lo])), ((a 1), .inr (0, [.ref (a 2), .int (nI N.length)])), ((a 2), .inl (D.1 20, 40, .inl g0)), ((a 3), .inr (0, [.ref (a 4), .int (nI T.length)])), ((a 4), .inl (D.1 20, 40, .inl g1)), ((a 5), .inr (0, [.ref (a 6), .int (nI A.length)])), ((a 6), .inl (D.1 20, 40, .inl g2)), ((a 7), .inr (0, [.ref (a 8), .int (nI B.length)])), ((a 8), .inl (D.1 20, 40, .inl g3)), ((a 9), .inr (2, [.ref (a 10)])), ((a 10), .inl (D.1 20, 40, .inl g4)), ((a 11), .inr (2, [.ref (a 12)])), ((a 12), .inl (D.1 20, 40, .inl g5)), ((a 13), .inr (2, [.ref (a 14)])), ((a 14), .inl (D.1 20, 40, .inl g6))]) 0 0 := by
  refine MU.enter (by decide) [(0, .ref (a 0)), (1, .int (nI k))] rfl (Nat.le_of_ble_eq_true rfl) (fun G hC hE => ?_)
  have hC : CX G D cX1_bring RX1 3 := hC
  have hS0 := hS
  have hW0 := hW
  obtain ⟨r0, r1, r2, r3, r4, r5, r6⟩ := hS
  obtain ⟨kN, kT, kA, kB, nd, len, lA, lB, p2, p12, g12, t1, p9⟩ := hW
  refine k_aload_n hC 0 dX1_bring_0 rfl ?_
  refine k_iload_n hC 1 dX1_bring_1 rfl ?_
  refine k_callVr hC 2 0 [0, 1, 2, 3, 4, 5, 6, 7, 8, 9, 10, 11, 12, 13, 14] (c_X1_forecast l D a N T A B to pi fe pl go hi mi re lo g0 g1 g2 g3 g4 g5 g6 k hS0 hW0 hk) cw_RX1_94 dX1_bring_2 ⟨Nat.le_of_ble_eq_true rfl, Nat.le_of_ble_eq_true rfl, Nat.le_of_ble_eq_true rfl, Nat.le_of_ble_eq_true rfl⟩ rfl (Nat.le_of_ble_eq_true rfl) rfl rfl rfl (by decide) rfl (fun _ => Nat.le_of_ble_eq_true rfl) (fun _ => rfl) _ rfl (fun v u hp => ?_)
  obtain rfl := hp
  refine KJ.eqs (st' := .int (ocI (oc (N, T, A, B, to, pi, fe, pl, go, hi, mi, re, lo) k)) :: []) rfl ?_
  rw [ho, ocI_4]
  refine k_istore_n hC 5 2 [(2, .int (-9)), (0, .ref (a 0)), (1, .int (nI k))] dX1_bring_5 rfl (by decide) rfl ?_
  refine k_iload_n hC 6 dX1_bring_6 rfl ?_
  refine k_bipush hC 7 dX1_bring_7 (-9) (by decide) ?_
  refine k_icmp_ne hC 9 14 dX1_bring_9 (by decide) (fun h9 => ?_) (fun h9 => ?_)
  · skip
    exact absurd rfl h9
  · skip
    refine k_iload_n hC 12 dX1_bring_12 rfl ?_
    exact k_iret hC hE 13 () dX1_bring_13 rfl rfl rfl ⟨Nat.zero_le _, Nat.zero_le _⟩
/-! CALLS WHOSE WORLD IS A MIDDLE PIECE OF THE CALLER'S -/
theorem nd_range : ∀ (n p : Nat), va_nd (List.range' p n) = true
  | 0, _ => rfl
  | n + 1, p => by
    rw [List.range'_succ]
    show (decide (p ∉ List.range' (p + 1) n) && va_nd (List.range' (p + 1) n)) = true
    rw [nd_range n (p + 1), Bool.and_true, decide_eq_true_eq]
    intro h
    have := List.mem_range'_1.mp h
    omega
theorem map_mid : ∀ (w0 P Q : va_W), (List.range' P.length w0.length).map (fun i => (P ++ w0 ++ Q)[i]?) = w0.map some
  | [], _, _ => rfl
  | c :: w, P, Q => by
    rw [List.length_cons, List.range'_succ, List.map_cons, List.map_cons]
    have h := map_mid w (P ++ [c]) Q
    rw [List.length_append, List.length_singleton, List.append_assoc P [c] w] at h
    have e : P ++ c :: w ++ Q = P ++ ([c] ++ w) ++ Q := rfl
    rw [e, h]
    refine congrArg (· :: w.map some) ?_
    rw [List.append_assoc, List.getElem?_append_right (Nat.le_refl _), Nat.sub_self]
    rfl
theorem set_mid (P : va_W) (c c1 : Nat × va_E) (w : va_W) : (P ++ c :: w).set P.length c1 = P ++ c1 :: w := by
  rw [List.set_append_right _ _ (Nat.le_refl _), Nat.sub_self]
  rfl
theorem putL_mid : ∀ (w0 w1 P Q : va_W), w1.length = w0.length → putL (P ++ w0 ++ Q) (List.range' P.length w0.length) w1 = P ++ w1 ++ Q
  | [], [], P, Q, _ => by
    show (P ++ [] ++ Q) ++ [] = P ++ [] ++ Q
    rw [List.append_nil]
  | c :: w, c1 :: w1, P, Q, h => by
    rw [List.length_cons, List.range'_succ]
    show putL ((P ++ c :: w ++ Q).set P.length c1) (List.range' (P.length + 1) w.length) w1 = P ++ c1 :: w1 ++ Q
    rw [List.append_assoc, List.cons_append, set_mid]
    have h2 := putL_mid w w1 (P ++ [c1]) Q (by simpa using h)
    rw [List.length_append, List.length_singleton] at h2
    have e : P ++ c1 :: (w ++ Q) = P ++ [c1] ++ w ++ Q := by simp
    rw [e, h2]
    simp
theorem putL_end : ∀ (w0 w1 P : va_W), w0.length ≤ w1.length → putL (P ++ w0 ++ []) (List.range' P.length w0.length) w1 = P ++ w1 ++ []
  | [], w1, P, _ => by
    rw [show List.range' P.length ([] : va_W).length = [] from rfl, putL]
    simp
  | c :: w, c1 :: w1, P, h => by
    rw [List.length_cons, List.range'_succ]
    show putL ((P ++ c :: w ++ []).set P.length c1) (List.range' (P.length + 1) w.length) w1 = P ++ c1 :: w1 ++ []
    rw [List.append_assoc, List.cons_append, set_mid]
    have h2 := putL_end w w1 (P ++ [c1]) (by simpa using h)
    rw [List.length_append, List.length_singleton] at h2
    have e : P ++ c1 :: (w ++ []) = P ++ [c1] ++ w ++ [] := by simp
    rw [e, h2]
    simp
theorem nd_app : ∀ (a b : List Nat), va_nd a = true → va_nd b = true → (∀ x ∈ a, x ∉ b) → va_nd (a ++ b) = true
  | [], _, _, hb, _ => hb
  | x :: a, b, ha, hb, hd => by
    have h1 : (decide (x ∉ a) && va_nd a) = true := ha
    rw [Bool.and_eq_true, decide_eq_true_eq] at h1
    show (decide (x ∉ a ++ b) && va_nd (a ++ b)) = true
    rw [nd_app a b h1.2 hb (fun y hy => hd y (List.mem_cons_of_mem _ hy)), Bool.and_true, decide_eq_true_eq]
    exact fun h => (List.mem_append.mp h).elim h1.1 (hd x List.mem_cons_self)
theorem nd_two (p m n : Nat) : va_nd (List.range' (p + m) n ++ List.range' p m) = true := nd_app _ _ (nd_range _ _) (nd_range _ _) (fun x hx h => by
  have h1 := List.mem_range'_1.mp hx
  have h2 := List.mem_range'_1.mp h
  omega)
theorem putL_app : ∀ (a : List Nat) (v : va_W) (b : List Nat) (z ws : va_W), a.length = v.length → putL ws (a ++ b) (v ++ z) = putL (putL ws a v) b z
  | [], [], b, z, ws, _ => by
    rw [putL, List.append_nil]
    rfl
  | i :: a, c :: v, b, z, ws, h => by
    show putL (ws.set i c) (a ++ b) (v ++ z) = putL (putL (ws.set i c) a v) b z
    exact putL_app a v b z _ (by simpa using h)
section FC
variable {S : Type} {l : Launch} {G : KX} {D : va_G} {R : Room} {cc : ByteArray} {own : String} {nL ce sl : Nat} {ws : va_W} {lv : List (Nat × Value)} {st : List Value}
variable {y : MethodName} {bytes : ByteArray} {maxL : Nat} {ret : Option FieldType} {fr lo : Nat} {w0 : va_W} {post : Option Value → S → Prop} {w1 : S → va_W} {px : String → Prop} {mc ms n ix : Nat} {As : List Value}

theorem f_callV (hC : CX G D cc own nL) (pc : Nat) {b ci : Nat} {q : vw_C} {fs : List Value} (q0 : Nat) (P Q : va_W) (ws' : S → va_W) (hM : MU l y bytes maxL ret fr lo D (.ref b :: As) w0 post w1 mc ms) (cw : CWV own ix y bytes maxL ret n) (hdg : decode cc pc = .ok (.invokevirtual ix, 3))
    (hR : fr + 1 ≤ R.frames ∧ 8 + (maxL + 11) + lo ≤ R.locals ∧ ce + mc ≤ R.cells ∧ sl + ms ≤ R.slots) (hn : As.length = n) (hcat : (st.map fun v => v.category).sum ≤ 8) (hq : ws[q0]? = some (b, .inr (ci, fs))) (hci : vwCl[ci]? = some q) (hqn : q.1 = y.cls) (hW : ws = P ++ w0 ++ Q) (hL : ∀ u, (w1 u).length = w0.length) (hws : ∀ u, P ++ w1 u ++ Q = ws' u)
    (st0 : List Value) (hst : st0 = As.reverse ++ .ref b :: st) (kk : ∀ (v : Option Value) (u : S), post v u → KJ l G D R nL (ce + mc) (sl + ms) (ws' u) lv (pc + 3) (v.toList ++ st)) : KJ l G D R nL ce sl ws lv pc st0 :=
  k_callV hC pc q0 (List.range' P.length w0.length) ws' hM cw hdg hR hn hcat hq hci hqn (nd_range _ _) (by rw [hW]; exact map_mid w0 P Q) (fun u => by rw [List.length_range', hL u]; exact Nat.le_refl _) (fun u => by rw [hW, putL_mid _ _ _ _ (hL u)]; exact hws u) st0 hst kk
theorem f_callS (hC : CX G D cc own nL) (pc : Nat) (P Q : va_W) (ws' : S → va_W) (hM : MU l y bytes maxL ret fr lo D As w0 post w1 mc ms) (cw : CWS own ix y bytes maxL ret n) (hdg : decode cc pc = .ok (.invokestatic ix, 3))
    (hR : fr + 1 ≤ R.frames ∧ 8 + (maxL + 11) + lo ≤ R.locals ∧ ce + mc ≤ R.cells ∧ sl + ms ≤ R.slots) (hn : As.length = n) (hcat : (st.map fun v => v.category).sum ≤ 8) (hW : ws = P ++ w0 ++ Q) (hL : ∀ u, (w1 u).length = w0.length) (hws : ∀ u, P ++ w1 u ++ Q = ws' u)
    (st0 : List Value) (hst : st0 = As.reverse ++ st) (kk : ∀ (v : Option Value) (u : S), post v u → KJ l G D R nL (ce + mc) (sl + ms) (ws' u) lv (pc + 3) (v.toList ++ st)) : KJ l G D R nL ce sl ws lv pc st0 :=
  k_callS hC pc (List.range' P.length w0.length) ws' hM cw hdg hR hn hcat (nd_range _ _) (by rw [hW]; exact map_mid w0 P Q) (fun u => by rw [List.length_range', hL u]; exact Nat.le_refl _) (fun u => by rw [hW, putL_mid _ _ _ _ (hL u)]; exact hws u) st0 hst kk
theorem f_callIe (hC : CX G D cc own nL) (pc : Nat) {b : Nat} (P : va_W) (ws' : S → va_W) (hM : MU l y bytes maxL none fr lo D (.ref b :: As) w0 post w1 mc ms) (cw : CWI own ix y bytes maxL n) (hdg : decode cc pc = .ok (.invokespecial ix, 3))
    (hR : fr + 1 ≤ R.frames ∧ 8 + (maxL + 11) + lo ≤ R.locals ∧ ce + mc ≤ R.cells ∧ sl + ms ≤ R.slots) (hn : As.length = n) (hcat : (st.map fun v => v.category).sum ≤ 8) (hW : ws = P ++ w0 ++ []) (hL : ∀ u, w0.length ≤ (w1 u).length) (hws : ∀ u, P ++ w1 u ++ [] = ws' u)
    (st0 : List Value) (hst : st0 = As.reverse ++ .ref b :: st) (kk : ∀ (v : Option Value) (u : S), post v u → KJ l G D R nL (ce + mc) (sl + ms) (ws' u) lv (pc + 3) (v.toList ++ st)) : KJ l G D R nL ce sl ws lv pc st0 :=
  k_callI hC pc (List.range' P.length w0.length) ws' hM cw hdg hR hn hcat (nd_range _ _) (by rw [hW]; exact map_mid w0 P []) (fun u => by rw [List.length_range']; exact hL u) (fun u => by rw [hW, putL_end _ _ _ (hL u)]; exact hws u) st0 hst kk
theorem g_callV (hC : CX G D cc own nL) (hX : XF l G) (pc : Nat) {b ci : Nat} {q : vw_C} {fs : List Value} (q0 : Nat) (P Q : va_W) (ws' : S → va_W) (hM : MX l y bytes maxL ret fr lo D (.ref b :: As) w0 post w1 px mc ms) (cw : CWV own ix y bytes maxL ret n) (hdg : decode cc pc = .ok (.invokevirtual ix, 3))
    (hR : fr + 1 ≤ R.frames ∧ 8 + (maxL + 11) + lo ≤ R.locals ∧ ce + mc ≤ R.cells ∧ sl + ms ≤ R.slots) (hn : As.length = n) (hcat : (st.map fun v => v.category).sum ≤ 8) (hq : ws[q0]? = some (b, .inr (ci, fs))) (hci : vwCl[ci]? = some q) (hqn : q.1 = y.cls) (hW : ws = P ++ w0 ++ Q) (hL : ∀ u, (w1 u).length = w0.length) (hws : ∀ u, P ++ w1 u ++ Q = ws' u)
    (st0 : List Value) (hst : st0 = As.reverse ++ .ref b :: st) (kk : ∀ (v : Option Value) (u : S), post v u → KJ l G D R nL (ce + mc) (sl + ms) (ws' u) lv (pc + 3) (v.toList ++ st)) (kx : ∀ E : String, px E → VJ l G D R nL (ce + mc) (sl + ms) ws lv pc st E) : KJ l G D R nL ce sl ws lv pc st0 :=
  x_callV hC hX pc q0 (List.range' P.length w0.length) ws' hM cw hdg hR hn hcat hq hci hqn (nd_range _ _) (by rw [hW]; exact map_mid w0 P Q) (fun u => by rw [List.length_range', hL u]; exact Nat.le_refl _) (fun u => by rw [hW, putL_mid _ _ _ _ (hL u)]; exact hws u) (by rw [hW, putL_mid _ _ _ _ rfl]) st0 hst kk kx
theorem g_callS (hC : CX G D cc own nL) (hX : XF l G) (pc : Nat) (P Q : va_W) (ws' : S → va_W) (hM : MX l y bytes maxL ret fr lo D As w0 post w1 px mc ms) (cw : CWS own ix y bytes maxL ret n) (hdg : decode cc pc = .ok (.invokestatic ix, 3))
    (hR : fr + 1 ≤ R.frames ∧ 8 + (maxL + 11) + lo ≤ R.locals ∧ ce + mc ≤ R.cells ∧ sl + ms ≤ R.slots) (hn : As.length = n) (hcat : (st.map fun v => v.category).sum ≤ 8) (hW : ws = P ++ w0 ++ Q) (hL : ∀ u, (w1 u).length = w0.length) (hws : ∀ u, P ++ w1 u ++ Q = ws' u)
    (st0 : List Value) (hst : st0 = As.reverse ++ st) (kk : ∀ (v : Option Value) (u : S), post v u → KJ l G D R nL (ce + mc) (sl + ms) (ws' u) lv (pc + 3) (v.toList ++ st)) (kx : ∀ E : String, px E → VJ l G D R nL (ce + mc) (sl + ms) ws lv pc st E) : KJ l G D R nL ce sl ws lv pc st0 :=
  x_callS hC hX pc (List.range' P.length w0.length) ws' hM cw hdg hR hn hcat (nd_range _ _) (by rw [hW]; exact map_mid w0 P Q) (fun u => by rw [List.length_range', hL u]; exact Nat.le_refl _) (fun u => by rw [hW, putL_mid _ _ _ _ (hL u)]; exact hws u) (by rw [hW, putL_mid _ _ _ _ rfl]) st0 hst kk kx
/-- a call on two pieces that lie the other way round: the receiver's piece X behind Y, which stays -/
theorem f_callV2 (hC : CX G D cc own nL) (pc : Nat) {b ci : Nat} {q : vw_C} {fs : List Value} (q0 : Nat) (P Y X : va_W) (X' : S → va_W) (ws' : S → va_W) (hM : MU l y bytes maxL ret fr lo D (.ref b :: As) (X ++ Y) post (fun u => X' u ++ Y) mc ms) (cw : CWV own ix y bytes maxL ret n) (hdg : decode cc pc = .ok (.invokevirtual ix, 3))
    (hR : fr + 1 ≤ R.frames ∧ 8 + (maxL + 11) + lo ≤ R.locals ∧ ce + mc ≤ R.cells ∧ sl + ms ≤ R.slots) (hn : As.length = n) (hcat : (st.map fun v => v.category).sum ≤ 8) (hq : ws[q0]? = some (b, .inr (ci, fs))) (hci : vwCl[ci]? = some q) (hqn : q.1 = y.cls) (hW : ws = P ++ (Y ++ X)) (hL : ∀ u, (X' u).length = X.length) (hws : ∀ u, P ++ (Y ++ X' u) = ws' u)
    (st0 : List Value) (hst : st0 = As.reverse ++ .ref b :: st) (kk : ∀ (v : Option Value) (u : S), post v u → KJ l G D R nL (ce + mc) (sl + ms) (ws' u) lv (pc + 3) (v.toList ++ st)) : KJ l G D R nL ce sl ws lv pc st0 := by
  have h1 : ws = P ++ Y ++ X ++ [] := by rw [hW]; simp
  have h2 : ws = P ++ Y ++ X := by rw [hW]; simp
  refine k_callV hC pc q0 (List.range' (P ++ Y).length X.length ++ List.range' P.length Y.length) ws' hM cw hdg hR hn hcat hq hci hqn ?_ ?_ ?_ ?_ st0 hst kk
  · rw [List.length_append]; exact nd_two _ _ _
  · rw [List.map_append, List.map_append]
    have e1 := map_mid X (P ++ Y) []
    rw [← h1] at e1
    have e2 := map_mid Y P X
    rw [← h2] at e2
    rw [e1, e2]
  · intro u
    rw [List.length_append, List.length_append (as := X' u), List.length_range', List.length_range', hL u]
    exact Nat.le_refl _
  · intro u
    have e3 := putL_mid X (X' u) (P ++ Y) [] (hL u)
    rw [← h1] at e3
    have e4 := putL_mid Y Y P (X' u) rfl
    have e5 : P ++ Y ++ X' u ++ [] = P ++ Y ++ X' u := List.append_nil _
    rw [putL_app _ _ _ _ _ (by rw [List.length_range', hL u]), e3, e5, e4, List.append_assoc]
    exact hws u
end FC
theorem nI_kn {p : Int32} (h : Ck p) : nI (kn p) = p := h.k.2
theorem WF.p9S {s : PS} (h : WF s) (k : Nat) : piS s k ≤ 9 := h.2.2.2.2.2.2.2.2.2.2.2.2 k
theorem WF.pl12 {s : PS} (h : WF s) : 2 ≤ plS s ∧ plS s ≤ 12 := ⟨h.2.2.2.2.2.2.2.2.1, h.2.2.2.2.2.2.2.2.2.1⟩
theorem WF.go12 {s : PS} (h : WF s) : goS s ≤ 12 := h.2.2.2.2.2.2.2.2.2.2.1
theorem SR.r5S {s : PS} {g : PG} (h : SR s g) {k : Nat} (hk : k < 40) : g.2.2.2.2.2.1 k = nI (piS s k) := h.2.2.2.2.2.1 k hk
theorem upPi_eq (s : PS) (k x : Nat) : upPi s k x = (s.1, s.2.1, s.2.2.1, s.2.2.2.1, s.2.2.2.2.1, va_up s.2.2.2.2.2.1 k x, s.2.2.2.2.2.2) := rfl
theorem f_X1_jars (l : Launch) (D : va_G) (a : Nat → Nat) (s : PS) (g : PG) (hS : SR s g) (hW : WF s) : MU l yX1_jars cX1_jars 1 (some .int) 0 0 D [.ref (a 0)] (wSt D a s g) (fun v (_ : Unit) => v = some (.int (nI (jrs s)))) (fun _ => wSt D a s g) 0 0 := by
  obtain ⟨N, T, A, B, to, pi, fe, pl, go, hi, mi, re, lo⟩ := s
  obtain ⟨g0, g1, g2, g3, g4, g5, g6⟩ := g
  exact c_X1_jars l D a N T A B to pi fe pl go hi mi re lo g0 g1 g2 g3 g4 g5 g6 hS hW
theorem f_X1_rowOf0 (l : Launch) (D : va_G) (a : Nat → Nat) (s : PS) (g : PG) (hS : SR s g) (hW : WF s) : MU l yX1_rowOf cX1_rowOf 2 (some (.object "PinnedPantry$Row")) 0 0 D [.ref (a 0), .int (nI 0)] (wSt D a s g) (fun v (_ : Unit) => v = some (.ref (a 1))) (fun _ => wSt D a s g) 0 0 := by
  obtain ⟨N, T, A, B, to, pi, fe, pl, go, hi, mi, re, lo⟩ := s
  obtain ⟨g0, g1, g2, g3, g4, g5, g6⟩ := g
  exact c_X1_rowOf0 l D a N T A B to pi fe pl go hi mi re lo g0 g1 g2 g3 g4 g5 g6 hS hW
theorem f_X1_listOf0 (l : Launch) (D : va_G) (a : Nat → Nat) (s : PS) (g : PG) (hS : SR s g) (hW : WF s) : MU l yX1_listOf cX1_listOf 2 (some (.object "PinnedPantry$Row")) 0 0 D [.ref (a 0), .int (nI 0)] (wSt D a s g) (fun v (_ : Unit) => v = some (.ref (a 5))) (fun _ => wSt D a s g) 0 0 := by
  obtain ⟨N, T, A, B, to, pi, fe, pl, go, hi, mi, re, lo⟩ := s
  obtain ⟨g0, g1, g2, g3, g4, g5, g6⟩ := g
  exact c_X1_listOf0 l D a N T A B to pi fe pl go hi mi re lo g0 g1 g2 g3 g4 g5 g6 hS hW
theorem f_X1_rowOf1 (l : Launch) (D : va_G) (a : Nat → Nat) (s : PS) (g : PG) (hS : SR s g) (hW : WF s) : MU l yX1_rowOf cX1_rowOf 2 (some (.object "PinnedPantry$Row")) 0 0 D [.ref (a 0), .int (nI 1)] (wSt D a s g) (fun v (_ : Unit) => v = some (.ref (a 3))) (fun _ => wSt D a s g) 0 0 := by
  obtain ⟨N, T, A, B, to, pi, fe, pl, go, hi, mi, re, lo⟩ := s
  obtain ⟨g0, g1, g2, g3, g4, g5, g6⟩ := g
  exact c_X1_rowOf1 l D a N T A B to pi fe pl go hi mi re lo g0 g1 g2 g3 g4 g5 g6 hS hW
theorem f_X1_listOf1 (l : Launch) (D : va_G) (a : Nat → Nat) (s : PS) (g : PG) (hS : SR s g) (hW : WF s) : MU l yX1_listOf cX1_listOf 2 (some (.object "PinnedPantry$Row")) 0 0 D [.ref (a 0), .int (nI 1)] (wSt D a s g) (fun v (_ : Unit) => v = some (.ref (a 7))) (fun _ => wSt D a s g) 0 0 := by
  obtain ⟨N, T, A, B, to, pi, fe, pl, go, hi, mi, re, lo⟩ := s
  obtain ⟨g0, g1, g2, g3, g4, g5, g6⟩ := g
  exact c_X1_listOf1 l D a N T A B to pi fe pl go hi mi re lo g0 g1 g2 g3 g4 g5 g6 hS hW
theorem f_X1_hasJar (l : Launch) (D : va_G) (a : Nat → Nat) (s : PS) (g : PG) (k : Nat) (hS : SR s g) (hW : WF s) (hk : k < 40) : MU l yX1_hasJar cX1_hasJar 2 (some .boolean) 2 43 D [.ref (a 0), .int (nI k)] (wSt D a s g) (fun v (_ : Unit) => v = some (.int (nI (yn (k ∈ s.1 ∨ k ∈ s.2.1))))) (fun _ => wSt D a s g) 0 0 := by
  obtain ⟨N, T, A, B, to, pi, fe, pl, go, hi, mi, re, lo⟩ := s
  obtain ⟨g0, g1, g2, g3, g4, g5, g6⟩ := g
  exact c_X1_hasJar l D a N T A B to pi fe pl go hi mi re lo g0 g1 g2 g3 g4 g5 g6 k hS hW hk
theorem f_X1_pinnedJars (l : Launch) (D : va_G) (a : Nat → Nat) (s : PS) (g : PG) (hS : SR s g) (hW : WF s) : MU l yX1_pinnedJars cX1_pinnedJars 1 (some .int) 2 44 D [.ref (a 0)] (wSt D a s g) (fun v (_ : Unit) => v = some (.int (nI (pnd s)))) (fun _ => wSt D a s g) 0 0 := by
  obtain ⟨N, T, A, B, to, pi, fe, pl, go, hi, mi, re, lo⟩ := s
  obtain ⟨g0, g1, g2, g3, g4, g5, g6⟩ := g
  exact c_X1_pinnedJars l D a N T A B to pi fe pl go hi mi re lo g0 g1 g2 g3 g4 g5 g6 hS hW
theorem f_X1_forecast (l : Launch) (D : va_G) (a : Nat → Nat) (s : PS) (g : PG) (k : Nat) (hS : SR s g) (hW : WF s) (hk : k < 40) : MU l yX1_forecast cX1_forecast 2 (some .int) 3 64 D [.ref (a 0), .int (nI k)] (wSt D a s g) (fun v (_ : Unit) => v = some (.int (ocI (oc s k)))) (fun _ => wSt D a s g) 0 0 := by
  obtain ⟨N, T, A, B, to, pi, fe, pl, go, hi, mi, re, lo⟩ := s
  obtain ⟨g0, g1, g2, g3, g4, g5, g6⟩ := g
  exact c_X1_forecast l D a N T A B to pi fe pl go hi mi re lo g0 g1 g2 g3 g4 g5 g6 k hS hW hk
theorem f_X1_bring (l : Launch) (D : va_G) (a : Nat → Nat) (s : PS) (g : PG) (k : Nat) (hS : SR s g) (hW : WF s) (hk : k < 40) : MU l yX1_bring cX1_bring 3 (some .int) 4 91 D [.ref (a 0), .int (nI k)] (wSt D a s g) (fun v (u : PS × PG) => v = some (.int (ocI (oc s k))) ∧ u.1 = br s k ∧ SR u.1 u.2) (fun u => wSt D a u.1 u.2) 0 0 := by
  obtain ⟨N, T, A, B, to, pi, fe, pl, go, hi, mi, re, lo⟩ := s
  obtain ⟨g0, g1, g2, g3, g4, g5, g6⟩ := g
  exact c_X1_bring l D a N T A B to pi fe pl go hi mi re lo g0 g1 g2 g3 g4 g5 g6 k hS hW hk
theorem f_X1_bring_no (l : Launch) (D : va_G) (a : Nat → Nat) (s : PS) (g : PG) (k : Nat) (hS : SR s g) (hW : WF s) (hk : k < 40) (ho : oc s k = 4) : MU l yX1_bring cX1_bring 3 (some .int) 4 91 D [.ref (a 0), .int (nI k)] (wSt D a s g) (fun v (_ : Unit) => v = some (.int (-9))) (fun _ => wSt D a s g) 0 0 := by
  obtain ⟨N, T, A, B, to, pi, fe, pl, go, hi, mi, re, lo⟩ := s
  obtain ⟨g0, g1, g2, g3, g4, g5, g6⟩ := g
  exact c_X1_bring_no l D a N T A B to pi fe pl go hi mi re lo g0 g1 g2 g3 g4 g5 g6 k hS hW hk ho
theorem f_X1_bringSeries (l : Launch) (D : va_G) (a : Nat → Nat) (s : PS) (g : PG) (fr st m : Nat) (hS : SR s g) (hW : WF s) (hfr : fr < 40) (hst : st < 40) (hm : m ≤ 30) : MU l yX1_bringSeries cX1_bringSeries 6 (some .int) 5 113 D [.ref (a 0), .int (nI fr), .int (nI st), .int (nI m)] (wSt D a s g) (fun v (u : PS × PG) => v = some (.int (hiS (srs fr st m 0 s) - hiS s)) ∧ u.1 = srs fr st m 0 s ∧ SR u.1 u.2) (fun u => wSt D a u.1 u.2) 0 0 := by
  obtain ⟨N, T, A, B, to, pi, fe, pl, go, hi, mi, re, lo⟩ := s
  obtain ⟨g0, g1, g2, g3, g4, g5, g6⟩ := g
  exact c_X1_bringSeries l D a N T A B to pi fe pl go hi mi re lo g0 g1 g2 g3 g4 g5 g6 fr st m hi _ hS hW hfr hst hm rfl rfl
theorem f_X1_changePins (l : Launch) (D : va_G) (a : Nat → Nat) (s : PS) (g : PG) (k : Nat) (x : Nat) (m : Int32) (hS : SR s g) (hW : WF s) (hk : k < 40) (hx : nI (piS s k) + m = nI x) : MU l yX1_changePins cX1_changePins 3 (some .int) 1 22 D [.ref (a 0), .int (nI k), .int m] (wSt D a s g) (fun v (u : PS × PG) => v = some (.int (nI x)) ∧ u.1 = upPi s k x ∧ SR u.1 u.2) (fun u => wSt D a u.1 u.2) 0 0 := by
  obtain ⟨N, T, A, B, to, pi, fe, pl, go, hi, mi, re, lo⟩ := s
  obtain ⟨g0, g1, g2, g3, g4, g5, g6⟩ := g
  exact c_X1_changePins l D a N T A B to pi fe pl go hi mi re lo g0 g1 g2 g3 g4 g5 g6 k x m hS hW hk hx
theorem f_X1_remove (l : Launch) (D : va_G) (a : Nat → Nat) (s : PS) (g : PG) (k : Nat) (hS : SR s g) (hW : WF s) (hk : k < 40) : MU l yX1_remove cX1_remove 2 (some .int) 1 22 D [.ref (a 0), .int (nI k)] (wSt D a s g) (fun v (u : PS × PG) => v = some (.int (feS s k)) ∧ u.1 = eatS s k ∧ SR u.1 u.2) (fun u => wSt D a u.1 u.2) 0 0 := by
  obtain ⟨N, T, A, B, to, pi, fe, pl, go, hi, mi, re, lo⟩ := s
  obtain ⟨g0, g1, g2, g3, g4, g5, g6⟩ := g
  exact c_X1_remove l D a N T A B to pi fe pl go hi mi re lo g0 g1 g2 g3 g4 g5 g6 k hS hW hk
theorem f_X1_resize (l : Launch) (D : va_G) (a : Nat → Nat) (s : PS) (g : PG) (p : Nat) (hS : SR s g) (hW : WF s) (hp2 : 2 ≤ p) (hp12 : p ≤ 12) (hpp : pnd s ≤ p) : MU l yX1_resize cX1_resize 3 none 4 91 D [.ref (a 0), .int (nI p)] (wSt D a s g) (fun v (u : PS × PG) => v = none ∧ u.1 = rsz p s ∧ SR u.1 u.2) (fun u => wSt D a u.1 u.2) 0 0 := by
  obtain ⟨N, T, A, B, to, pi, fe, pl, go, hi, mi, re, lo⟩ := s
  obtain ⟨g0, g1, g2, g3, g4, g5, g6⟩ := g
  exact c_X1_resize l D a N T A B to pi fe pl go hi mi re lo g0 g1 g2 g3 g4 g5 g6 p _ hS hW hp2 hp12 hpp rfl
theorem f_X1_tally (l : Launch) (D : va_G) (a : Nat → Nat) (s : PS) (g : PG) (n : Nat) (hS : SR s g) (hW : WF s) (hn : n ≤ 10) : MU l yX1_tally cX1_tally 2 (some .int) 3 64 D [.ref (a 0), .int (nI n)] (wSt D a s g) (fun v (_ : Unit) => v = some (.int (ct s n))) (fun _ => wSt D a s g) 0 0 := by
  obtain ⟨N, T, A, B, to, pi, fe, pl, go, hi, mi, re, lo⟩ := s
  obtain ⟨g0, g1, g2, g3, g4, g5, g6⟩ := g
  exact c_X1_tally l D a N T A B to pi fe pl go hi mi re lo g0 g1 g2 g3 g4 g5 g6 n hS hW hn
theorem f_X1_detail (l : Launch) (D : va_G) (a : Nat → Nat) (s : PS) (g : PG) (k n : Nat) (hS : SR s g) (hW : WF s) (hk : k < 40) (hn : n ≤ 4) : MU l yX1_detail cX1_detail 5 (some .int) 2 43 D [.ref (a 0), .int (nI k), .int (nI n)] (wSt D a s g) (fun v (_ : Unit) => v = some (.int (dtl s k n))) (fun _ => wSt D a s g) 0 0 := by
  obtain ⟨N, T, A, B, to, pi, fe, pl, go, hi, mi, re, lo⟩ := s
  obtain ⟨g0, g1, g2, g3, g4, g5, g6⟩ := g
  exact c_X1_detail l D a N T A B to pi fe pl go hi mi re lo g0 g1 g2 g3 g4 g5 g6 k n hS hW hk hn
theorem f_X1_fetchesOfAll (l : Launch) (D : va_G) (a : Nat → Nat) (s : PS) (g : PG) (hS : SR s g) (hW : WF s) : MU l yX1_fetchesOfAll cX1_fetchesOfAll 3 (some .int) 3 64 D [.ref (a 0)] (wSt D a s g) (fun v (_ : Unit) => v = some (.int (fsm s.1 s.2.1 s.2.2.2.2.2.2.1 40))) (fun _ => wSt D a s g) 0 0 := by
  obtain ⟨N, T, A, B, to, pi, fe, pl, go, hi, mi, re, lo⟩ := s
  obtain ⟨g0, g1, g2, g3, g4, g5, g6⟩ := g
  exact c_X1_fetchesOfAll l D a N T A B to pi fe pl go hi mi re lo g0 g1 g2 g3 g4 g5 g6 hS hW
theorem f_X1_sweep (l : Launch) (D : va_G) (a : Nat → Nat) (s : PS) (g : PG) (hS : SR s g) (hW : WF s) (hpj : pnd s < jrs s) : MU l yX1_sweep cX1_sweep 5 (some .int) 3 67 D [.ref (a 0)] (wSt D a s g) (fun v (u : PS × PG) => v = some (.int (nI (sw s).2)) ∧ u.1 = (sw s).1 ∧ SR u.1 u.2) (fun u => wSt D a u.1 u.2) 0 0 := by
  obtain ⟨N, T, A, B, to, pi, fe, pl, go, hi, mi, re, lo⟩ := s
  obtain ⟨g0, g1, g2, g3, g4, g5, g6⟩ := g
  have so := sw_ok hW hpj
  exact c_X1_sweep l D a N T A B to pi fe pl go hi mi re lo g0 g1 g2 g3 g4 g5 g6 200 _ _ hS hW (by decide) so.1 hpj
theorem f_X1_sweep_no (l : Launch) (D : va_G) (a : Nat → Nat) (s : PS) (g : PG) (hS : SR s g) (hW : WF s) (hpj : ¬ pnd s < jrs s) : MU l yX1_sweep cX1_sweep 5 (some .int) 3 67 D [.ref (a 0)] (wSt D a s g) (fun v (u : PS × PG) => v = some (.int (-1)) ∧ u.1 = s ∧ SR u.1 u.2) (fun u => wSt D a u.1 u.2) 0 0 := by
  obtain ⟨N, T, A, B, to, pi, fe, pl, go, hi, mi, re, lo⟩ := s
  obtain ⟨g0, g1, g2, g3, g4, g5, g6⟩ := g
  exact c_X1_sweep_no l D a N T A B to pi fe pl go hi mi re lo g0 g1 g2 g3 g4 g5 g6 hS hW hpj
theorem f_X1_become (l : Launch) (D : va_G) (a : Nat → Nat) (s : PS) (g : PG) (b : Nat → Nat) (s2 : PS) (g2 : PG) (hS : SR s2 g2) (hW : WF s2) : MU l yX1_become cX1_become 2 none 1 22 D [.ref (a 0), .ref (b 0)] (wSt D a s g ++ wSt D b s2 g2) (fun v (u : PG) => v = none ∧ SR s2 u) (fun u => wSt D a s2 u ++ wSt D b s2 g2) 0 0 := by
  obtain ⟨N, T, A, B, to, pi, fe, pl, go, hi, mi, re, lo⟩ := s
  obtain ⟨g0, g1, g2, g3, g4, g5, g6⟩ := g
  rename_i g2'
  obtain ⟨N2, T2, A2, B2, to2, pi2, fe2, pl2, go2, hi2, mi2, re2, lo2⟩ := s2
  obtain ⟨m0, m1, m2, m3, m4, m5, m6⟩ := g2'
  exact c_X1_become l D a N T A B to pi fe pl go hi mi re lo g0 g1 g2 g3 g4 g5 g6 b N2 T2 A2 B2 to2 pi2 fe2 pl2 go2 hi2 mi2 re2 lo2 m0 m1 m2 m3 m4 m5 m6 hS hW
