/-! SWEEPING COMES TO ITS END -/
def tch (to pi : Nat → Nat) (L : List Nat) : Nat := L.countP (fun k => decide (pi k = 0 ∧ 0 < to k))
def fi (pi : Nat → Nat) (L : List Nat) : Nat := L.findIdx (fun k => decide (pi k = 0))
def mu : PS → Nat
  | (N, T, _, _, to, pi, _, _, go, _) => 13 * (tch to pi N + tch to pi T) + (if gv N T pi go = 0 then fi pi N else fi pi T)
theorem tch_cons (to pi : Nat → Nat) (k : Nat) (L : List Nat) : tch to pi (k :: L) = tch to pi L + (if pi k = 0 ∧ 0 < to k then 1 else 0) := by
  unfold tch
  rw [List.countP_cons]
  by_cases e : pi k = 0 ∧ 0 < to k <;> simp [e]
theorem tch_snoc (to pi : Nat → Nat) (k : Nat) (L : List Nat) : tch to pi (L ++ [k]) = tch to pi L + (if pi k = 0 ∧ 0 < to k then 1 else 0) := by
  unfold tch
  rw [List.countP_append, List.countP_singleton]
  by_cases e : pi k = 0 ∧ 0 < to k <;> simp [e]
theorem tch_up {to pi : Nat → Nat} {k : Nat} {L : List Nat} (h : k ∉ L) : tch (va_up to k 0) pi L = tch to pi L := by
  unfold tch
  refine List.countP_congr (fun x hx => ?_)
  have e : x ≠ k := fun z => h (z ▸ hx)
  simp [va_up, e]
theorem tch_le (to pi : Nat → Nat) (L : List Nat) : tch to pi L ≤ L.length := List.countP_le_length
theorem fi_le (pi : Nat → Nat) (L : List Nat) : fi pi L ≤ L.length := List.findIdx_le_length
theorem fi_pin {pi : Nat → Nat} {k : Nat} {L : List Nat} (hp : 0 < pi k) (h : pc pi L < L.length) : fi pi (L ++ [k]) + 1 = fi pi (k :: L) := by
  unfold fi
  have h0 : decide (pi k = 0) = false := decide_eq_false (by omega)
  rw [List.findIdx_cons, h0]
  have hex : ∃ x ∈ L, decide (pi x = 0) = true := by
    refine Classical.byContradiction (fun z => ?_)
    have h2 : pc pi L = L.length := List.countP_eq_length.mpr (fun x hx => by
      have : ¬ pi x = 0 := fun e => z ⟨x, hx, decide_eq_true e⟩
      exact decide_eq_true (by omega))
    omega
  have h3 : L.findIdx (fun k => decide (pi k = 0)) < L.length := List.findIdx_lt_length_of_exists hex
  rw [List.findIdx_append, if_pos h3]
  rfl
theorem gv_eq {N T N2 T2 : List Nat} {pi : Nat → Nat} {go : Nat} (h1 : pc pi N2 = pc pi N) (h2 : N2.length = N.length) (h3 : pc pi T2 = pc pi T) (h4 : T2.length = T.length) : gv N2 T2 pi go = gv N T pi go := by
  unfold gv
  rw [h1, h2, h3, h4]
theorem gv_0c {N T : List Nat} {pi : Nat → Nat} {go : Nat} (h : gv N T pi go = 0) : pc pi N < N.length := by
  unfold gv at h
  split at h
  · rename_i z; exact z.1
  · cases h
theorem gv_1c {N T : List Nat} {pi : Nat → Nat} {go : Nat} (h : gv N T pi go = 1) (hp : pc pi N + pc pi T < N.length + T.length) : pc pi T < T.length := by
  unfold gv at h
  split at h
  · cases h
  · rename_i z
    have := pc_le pi N
    have := pc_le pi T
    refine Classical.byContradiction (fun y => z ⟨by omega, Or.inr (by omega)⟩)
theorem mu_lt {s : PS} (h : WF s) (hpj : pnd s < jrs s) (hn : (lk s).2 = none) : mu (lk s).1 < mu s := by
  obtain ⟨N, T, A, B, to, pi, fe, pl, go, hi, mi, re, lo⟩ := s
  obtain ⟨kN, kT, kA, kB, nd, len, lA, lB, p2, p12, g12, t1, p9⟩ := h
  have six := lk_six (N := N) (T := T) (pi := pi) (to := to) (go := go) hpj
  rcases six with ⟨k, N', rfl, hg, h | h | h⟩ | ⟨k, T', rfl, hg, h | h | h⟩
  · have hc := gv_0c hg
    rw [pc_cons, if_pos h, List.length_cons] at hc
    have hf := fi_pin h (L := N') (by omega)
    have hg2 : gv (N' ++ [k]) T pi go = 0 := (gv_eq (by rw [pc_cons, pc_snoc]) (by simp) rfl rfl).trans hg
    rw [lk_0p hg h]
    show 13 * (tch to pi (N' ++ [k]) + tch to pi T) + (if gv (N' ++ [k]) T pi go = 0 then fi pi (N' ++ [k]) else fi pi T) < 13 * (tch to pi (k :: N') + tch to pi T) + (if gv (k :: N') T pi go = 0 then fi pi (k :: N') else fi pi T)
    rw [if_pos hg, if_pos hg2, tch_cons, tch_snoc]
    omega
  · rw [lk_0t hg h.1 h.2]
    have hk1 : k ∉ N' ++ T := (List.nodup_cons.mp nd).1
    have hk2 : k ∉ N' := fun z => hk1 (List.mem_append_left _ z)
    have hk3 : k ∉ T := fun z => hk1 (List.mem_append_right _ z)
    show 13 * (tch (va_up to k 0) pi N' + tch (va_up to k 0) pi (T ++ [k])) + (if gv N' (T ++ [k]) pi go = 0 then fi pi N' else fi pi (T ++ [k])) < 13 * (tch to pi (k :: N') + tch to pi T) + (if gv (k :: N') T pi go = 0 then fi pi (k :: N') else fi pi T)
    have f1 := fi_le pi N'
    have f2 := fi_le pi (T ++ [k])
    rw [tch_cons, tch_snoc, tch_up hk2, tch_up hk3, if_pos h, if_neg (by simp [va_up])]
    simp only [List.length_append, List.length_cons, List.length_nil] at len f1 f2
    split <;> (first | omega | (split <;> omega))
  · rw [lk_0l hg h.1 h.2] at hn
    cases hn
  · have hc := gv_1c hg hpj
    rw [pc_cons, if_pos h, List.length_cons] at hc
    have hf := fi_pin h (L := T') (by omega)
    have hg2 : gv N (T' ++ [k]) pi go = 1 := (gv_eq rfl rfl (by rw [pc_cons, pc_snoc]) (by simp)).trans hg
    rw [lk_1p hg h]
    show 13 * (tch to pi N + tch to pi (T' ++ [k])) + (if gv N (T' ++ [k]) pi go = 0 then fi pi N else fi pi (T' ++ [k])) < 13 * (tch to pi N + tch to pi (k :: T')) + (if gv N (k :: T') pi go = 0 then fi pi N else fi pi (k :: T'))
    rw [if_neg (by omega), if_neg (by omega), tch_cons, tch_snoc]
    omega
  · rw [lk_1t hg h.1 h.2]
    have hk0 : k ∉ T' ∧ k ∉ N := by
      have h1 := List.nodup_append.mp nd
      exact ⟨(List.nodup_cons.mp h1.2.1).1, fun z => h1.2.2 k z k List.mem_cons_self rfl⟩
    show 13 * (tch (va_up to k 0) pi N + tch (va_up to k 0) pi (T' ++ [k])) + (if gv N (T' ++ [k]) pi go = 0 then fi pi N else fi pi (T' ++ [k])) < 13 * (tch to pi N + tch to pi (k :: T')) + (if gv N (k :: T') pi go = 0 then fi pi N else fi pi (k :: T'))
    have f1 := fi_le pi N
    have f2 := fi_le pi (T' ++ [k])
    rw [tch_cons, tch_snoc, tch_up hk0.1, tch_up hk0.2, if_pos h, if_neg (by simp [va_up])]
    simp only [List.length_append, List.length_cons, List.length_nil] at len f1 f2
    split <;> (first | omega | (split <;> omega))
  · rw [lk_1l hg h.1 h.2] at hn
    cases hn
theorem mu_le {s : PS} (h : WF s) : mu s < 200 := by
  obtain ⟨N, T, A, B, to, pi, fe, pl, go, hi, mi, re, lo⟩ := s
  obtain ⟨kN, kT, kA, kB, nd, len, -⟩ := h
  show 13 * (tch to pi N + tch to pi T) + (if gv N T pi go = 0 then fi pi N else fi pi T) < 200
  have h1 := tch_le to pi N
  have h2 := tch_le to pi T
  have h3 := fi_le pi N
  have h4 := fi_le pi T
  split <;> omega
theorem swN_ok : ∀ (n : Nat) (s : PS), WF s → pnd s < jrs s → mu s < n → ∃ r : PS × Nat, swN n s = some r ∧ WF r.1 ∧ pnd r.1 = pnd s ∧ jrs r.1 + 1 = jrs s ∧ plS r.1 = plS s
  | 0, _, _, _, h => absurd h (Nat.not_lt_zero _)
  | n + 1, s, hW, hpj, hm => by
    have w := lk_wf hW hpj
    have pj := lk_pj hpj
    cases hl : lk s with
    | mk s1 o =>
      rw [hl] at w pj
      cases o with
      | some k => exact ⟨(s1, k), by simp only [swN, hl], w, pj.1, by simpa using pj.2.1, pj.2.2⟩
      | none =>
        have hlt := mu_lt hW hpj (by rw [hl])
        rw [hl] at hlt
        have j1 : jrs s1 = jrs s := by simpa using pj.2.1
        have hlt' : mu s1 < mu s := hlt
        obtain ⟨r, r1, r2, r3, r4, r5⟩ := swN_ok n s1 w (by rw [pj.1, j1]; exact hpj) (by omega)
        exact ⟨r, by simp only [swN, hl]; exact r1, r2, r3.trans pj.1, by rw [r4]; exact j1, r5.trans pj.2.2⟩
/-- what sweeping is, where some jar is not pinned -/
theorem sw_ok {s : PS} (h : WF s) (hpj : pnd s < jrs s) : swN 200 s = some ((sw s).1, (sw s).2) ∧ WF (sw s).1 ∧ pnd (sw s).1 = pnd s ∧ jrs (sw s).1 + 1 = jrs s ∧ plS (sw s).1 = plS s := by
  obtain ⟨r, h1, h2, h3, h4, h5⟩ := swN_ok 200 s h hpj (mu_le h)
  have e : sw s = r := by unfold sw; rw [h1]; rfl
  rw [e]
  exact ⟨h1, h2, h3, h4, h5⟩
theorem oc_lt (s : PS) (k : Nat) : oc s k < 5 := by
  obtain ⟨N, T, A, B, to, pi, fe, pl, go, hi, mi, re, lo⟩ := s
  show (if _ then _ else _) < 5
  split
  · omega
  · split
    · omega
    · split
      · omega
      · split <;> omega
theorem oc_2 {s : PS} {k : Nat} (h : oc s k = 2) : k ∈ s.2.2.1 := by
  obtain ⟨N, T, A, B, to, pi, fe, pl, go, hi, mi, re, lo⟩ := s
  have h' : (if k ∈ N ∨ k ∈ T then 0 else if pl ≤ N.length + T.length ∧ N.length + T.length ≤ pc pi N + pc pi T then 4 else if k ∈ A then 2 else if k ∈ B then 3 else 1) = 2 := h
  by_cases h1 : k ∈ N ∨ k ∈ T
  · rw [if_pos h1] at h'; cases h'
  · rw [if_neg h1] at h'
    by_cases h2 : pl ≤ N.length + T.length ∧ N.length + T.length ≤ pc pi N + pc pi T
    · rw [if_pos h2] at h'; cases h'
    · rw [if_neg h2] at h'
      by_cases h3 : k ∈ A
      · exact h3
      · rw [if_neg h3] at h'
        split at h' <;> cases h'
theorem oc_3 {s : PS} {k : Nat} (h : oc s k = 3) : k ∈ s.2.2.2.1 := by
  obtain ⟨N, T, A, B, to, pi, fe, pl, go, hi, mi, re, lo⟩ := s
  have h' : (if k ∈ N ∨ k ∈ T then 0 else if pl ≤ N.length + T.length ∧ N.length + T.length ≤ pc pi N + pc pi T then 4 else if k ∈ A then 2 else if k ∈ B then 3 else 1) = 3 := h
  by_cases h1 : k ∈ N ∨ k ∈ T
  · rw [if_pos h1] at h'; cases h'
  · rw [if_neg h1] at h'
    by_cases h2 : pl ≤ N.length + T.length ∧ N.length + T.length ≤ pc pi N + pc pi T
    · rw [if_pos h2] at h'; cases h'
    · rw [if_neg h2] at h'
      by_cases h3 : k ∈ A
      · rw [if_pos h3] at h'; cases h'
      · rw [if_neg h3] at h'
        by_cases h4 : k ∈ B
        · exact h4
        · rw [if_neg h4] at h'; cases h'
/-- not there, and there is room or some jar that is not pinned -/
theorem oc_m {s : PS} {k : Nat} (h0 : oc s k ≠ 0) (h4 : oc s k ≠ 4) : (k ∉ s.1 ∧ k ∉ s.2.1) ∧ (plS s ≤ jrs s → pnd s < jrs s) := by
  obtain ⟨N, T, A, B, to, pi, fe, pl, go, hi, mi, re, lo⟩ := s
  have e : oc (N, T, A, B, to, pi, fe, pl, go, hi, mi, re, lo) k = (if k ∈ N ∨ k ∈ T then 0 else if pl ≤ N.length + T.length ∧ N.length + T.length ≤ pc pi N + pc pi T then 4 else if k ∈ A then 2 else if k ∈ B then 3 else 1) := rfl
  rw [e] at h0 h4
  by_cases h1 : k ∈ N ∨ k ∈ T
  · rw [if_pos h1] at h0; exact absurd rfl h0
  · rw [if_neg h1] at h4
    by_cases h2 : pl ≤ N.length + T.length ∧ N.length + T.length ≤ pc pi N + pc pi T
    · rw [if_pos h2] at h4; exact absurd rfl h4
    · refine ⟨⟨fun z => h1 (Or.inl z), fun z => h1 (Or.inr z)⟩, fun h => ?_⟩
      have h' : pl ≤ N.length + T.length := h
      show pc pi N + pc pi T < N.length + T.length
      omega
theorem br_4 {s : PS} {k : Nat} (h : oc s k = 4) : br s k = s := by unfold br; rw [h]; rfl
theorem br_0 {s : PS} {k : Nat} (h : oc s k = 0) : br s k = hitS s k := by unfold br; rw [h]; rfl
theorem br_m {s : PS} {k o : Nat} (h : oc s k = o) (h0 : o ≠ 0) (h4 : o ≠ 4) : br s k = plc (if plS (rcl (missS s) k o) ≤ jrs (rcl (missS s) k o) then (sw (rcl (missS s) k o)).1 else rcl (missS s) k o) k o := by
  unfold br
  rw [h]
  show (if o = 4 then _ else _) = _
  rw [if_neg h4, if_neg h0]
theorem rcl_keep (s : PS) (k o : Nat) : (rcl s k o).1 = s.1 ∧ (rcl s k o).2.1 = s.2.1 ∧ jrs (rcl s k o) = jrs s ∧ pnd (rcl s k o) = pnd s ∧ plS (rcl s k o) = plS s := by
  obtain ⟨N, T, A, B, to, pi, fe, pl, go, hi, mi, re, lo⟩ := s
  unfold rcl
  dsimp only
  split
  · exact ⟨rfl, rfl, rfl, rfl, rfl⟩
  · split
    · exact ⟨rfl, rfl, rfl, rfl, rfl⟩
    · exact ⟨rfl, rfl, rfl, rfl, rfl⟩
theorem rcl_wf {s : PS} (h : WF s) (k o : Nat) : WF (rcl s k o) := by
  obtain ⟨N, T, A, B, to, pi, fe, pl, go, hi, mi, re, lo⟩ := s
  obtain ⟨kN, kT, kA, kB, nd, len, lA, lB, p2, p12, g12, t1, p9⟩ := h
  have hA := List.length_eraseIdx_le (l := A) (i := A.idxOf k)
  have hB := List.length_eraseIdx_le (l := B) (i := B.idxOf k)
  unfold rcl
  dsimp only
  split
  · exact ⟨kN, kT, kA.cut _, kB, nd, len, by omega, lB, p2, p12, by omega, t1, p9⟩
  · split
    · exact ⟨kN, kT, kA, kB.cut _, nd, len, lA, by omega, p2, p12, by omega, t1, p9⟩
    · exact ⟨kN, kT, kA, kB, nd, len, lA, lB, p2, p12, g12, t1, p9⟩
theorem missS_wf {s : PS} (h : WF s) : WF (missS s) := h
theorem hitS_wf {s : PS} (h : WF s) (k : Nat) : WF (hitS s k) := by
  obtain ⟨N, T, A, B, to, pi, fe, pl, go, hi, mi, re, lo⟩ := s
  obtain ⟨kN, kT, kA, kB, nd, len, lA, lB, p2, p12, g12, t1, p9⟩ := h
  exact ⟨kN, kT, kA, kB, nd, len, lA, lB, p2, p12, g12, up_le t1 k 1 (by omega), p9⟩
