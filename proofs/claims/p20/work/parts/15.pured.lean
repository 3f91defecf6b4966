theorem lk_mem {s : PS} (hpj : pnd s < jrs s) : ∀ x : Nat, x ∈ (lk s).1.1 ++ (lk s).1.2.1 → x ∈ s.1 ++ s.2.1 := by
  obtain ⟨N, T, A, B, to, pi, fe, pl, go, hi, mi, re, lo⟩ := s
  intro x
  rcases lk_six (N := N) (T := T) (pi := pi) (to := to) (go := go) hpj with ⟨k, N', rfl, hg, h | h | h⟩ | ⟨k, T', rfl, hg, h | h | h⟩
  · rw [lk_0p hg h]
    intro hx
    simp only [List.mem_append, List.mem_cons, List.not_mem_nil, or_false] at hx ⊢
    rcases hx with (hx | hx) | hx
    · exact Or.inl (Or.inr hx)
    · exact Or.inl (Or.inl hx)
    · exact Or.inr hx
  · rw [lk_0t hg h.1 h.2]
    intro hx
    simp only [List.mem_append, List.mem_cons, List.not_mem_nil, or_false] at hx ⊢
    rcases hx with hx | (hx | hx)
    · exact Or.inl (Or.inr hx)
    · exact Or.inr hx
    · exact Or.inl (Or.inl hx)
  · rw [lk_0l hg h.1 h.2]
    intro hx
    simp only [List.mem_append, List.mem_cons, List.not_mem_nil, or_false] at hx ⊢
    rcases hx with hx | hx
    · exact Or.inl (Or.inr hx)
    · exact Or.inr hx
  · rw [lk_1p hg h]
    intro hx
    simp only [List.mem_append, List.mem_cons, List.not_mem_nil, or_false] at hx ⊢
    rcases hx with hx | (hx | hx)
    · exact Or.inl hx
    · exact Or.inr (Or.inr hx)
    · exact Or.inr (Or.inl hx)
  · rw [lk_1t hg h.1 h.2]
    intro hx
    simp only [List.mem_append, List.mem_cons, List.not_mem_nil, or_false] at hx ⊢
    rcases hx with hx | (hx | hx)
    · exact Or.inl hx
    · exact Or.inr (Or.inr hx)
    · exact Or.inr (Or.inl hx)
  · rw [lk_1l hg h.1 h.2]
    intro hx
    simp only [List.mem_append, List.mem_cons, List.not_mem_nil, or_false] at hx ⊢
    rcases hx with hx | hx
    · exact Or.inl hx
    · exact Or.inr (Or.inr hx)
theorem swN_mem : ∀ (n : Nat) (s : PS) (r : PS × Nat), WF s → pnd s < jrs s → swN n s = some r → ∀ x : Nat, x ∈ r.1.1 ++ r.1.2.1 → x ∈ s.1 ++ s.2.1
  | 0, _, _, _, _, h => by cases h
  | n + 1, s, r, hW, hpj, h => by
    have w := lk_wf hW hpj
    have pj := lk_pj hpj
    have hm := lk_mem hpj
    intro x hx
    cases hl : lk s with
    | mk s1 o =>
      rw [hl] at w pj hm
      cases o with
      | some k =>
        simp only [swN, hl] at h
        cases h
        exact hm x hx
      | none =>
        simp only [swN, hl] at h
        have j1 : jrs s1 = jrs s := by simpa using pj.2.1
        exact hm x (swN_mem n s1 r w (by rw [pj.1, j1]; exact hpj) h x hx)
theorem sw_mem {s : PS} (h : WF s) (hpj : pnd s < jrs s) : ∀ x : Nat, x ∈ (sw s).1.1 ++ (sw s).1.2.1 → x ∈ s.1 ++ s.2.1 := swN_mem 200 s _ h hpj (sw_ok h hpj).1
theorem plc_wf {s : PS} (h : WF s) {k : Nat} (o : Nat) (hk : k < 40) (h1 : k ∉ s.1 ++ s.2.1) (h2 : jrs s < 12) : WF (plc s k o) := by
  obtain ⟨N, T, A, B, to, pi, fe, pl, go, hi, mi, re, lo⟩ := s
  obtain ⟨kN, kT, kA, kB, nd, len, lA, lB, p2, p12, g12, t1, p9⟩ := h
  have h2' : N.length + T.length < 12 := h2
  have hp : List.Perm (N ++ [k] ++ T) (k :: (N ++ T)) := by
    have h3 := (List.perm_append_singleton k N).append_right T
    exact h3
  have hq : List.Perm (N ++ (T ++ [k])) (k :: (N ++ T)) := by
    rw [← List.append_assoc]
    exact List.perm_append_singleton k (N ++ T)
  have nd2 : (k :: (N ++ T)).Nodup := List.nodup_cons.mpr ⟨h1, nd⟩
  unfold plc
  dsimp only
  split
  · exact ⟨kN.push hk, kT, kA, kB, hp.nodup_iff.mpr nd2, by simp only [List.length_append, List.length_cons, List.length_nil]; omega, lA, lB, p2, p12, g12, up_le t1 k 0 (by omega), up_le p9 k 0 (by omega)⟩
  · exact ⟨kN, kT.push hk, kA, kB, hq.nodup_iff.mpr nd2, by simp only [List.length_append, List.length_cons, List.length_nil]; omega, lA, lB, p2, p12, g12, up_le t1 k 0 (by omega), up_le p9 k 0 (by omega)⟩
/-- what stands before a new jar is put: room for it -/
theorem mid_ok {s : PS} (h : WF s) {k o : Nat} (ho : oc s k = o) (h0 : o ≠ 0) (h4 : o ≠ 4) : WF (if plS (rcl (missS s) k o) ≤ jrs (rcl (missS s) k o) then (sw (rcl (missS s) k o)).1 else rcl (missS s) k o) ∧ k ∉ (if plS (rcl (missS s) k o) ≤ jrs (rcl (missS s) k o) then (sw (rcl (missS s) k o)).1 else rcl (missS s) k o).1 ++ (if plS (rcl (missS s) k o) ≤ jrs (rcl (missS s) k o) then (sw (rcl (missS s) k o)).1 else rcl (missS s) k o).2.1 ∧ jrs (if plS (rcl (missS s) k o) ≤ jrs (rcl (missS s) k o) then (sw (rcl (missS s) k o)).1 else rcl (missS s) k o) < 12 := by
  have hm := oc_m (s := s) (k := k) (by rw [ho]; exact h0) (by rw [ho]; exact h4)
  have hk := rcl_keep (missS s) k o
  have hw := rcl_wf (missS_wf h) k o
  have e1 : (missS s).1 = s.1 := rfl
  have e2 : (missS s).2.1 = s.2.1 := rfl
  have e3 : jrs (missS s) = jrs s := rfl
  have e4 : pnd (missS s) = pnd s := rfl
  have e5 : plS (missS s) = plS s := rfl
  have hno : k ∉ (rcl (missS s) k o).1 ++ (rcl (missS s) k o).2.1 := by
    rw [hk.1, hk.2.1, e1, e2]
    exact fun z => (List.mem_append.mp z).elim hm.1.1 hm.1.2
  have hj : jrs (rcl (missS s) k o) ≤ 12 := by
    rw [hk.2.2.1, e3]
    obtain ⟨N, T, A, B, to, pi, fe, pl, go, hi, mi, re, lo⟩ := s
    exact h.2.2.2.2.2.1
  have hp12 : plS (rcl (missS s) k o) ≤ 12 := by
    rw [hk.2.2.2.2, e5]
    obtain ⟨N, T, A, B, to, pi, fe, pl, go, hi, mi, re, lo⟩ := s
    exact h.2.2.2.2.2.2.2.2.2.1
  by_cases hc : plS (rcl (missS s) k o) ≤ jrs (rcl (missS s) k o)
  · rw [if_pos hc]
    have hpj : pnd (rcl (missS s) k o) < jrs (rcl (missS s) k o) := by
      rw [hk.2.2.2.1, hk.2.2.1, e4, e3]
      exact hm.2 (by rw [hk.2.2.2.2, hk.2.2.1, e5, e3] at hc; exact hc)
    have hs := sw_ok hw hpj
    exact ⟨hs.2.1, fun z => hno (sw_mem hw hpj k z), by have := hs.2.2.2.1; omega⟩
  · rw [if_neg hc]
    exact ⟨hw, hno, by omega⟩
theorem mid_pj {s : PS} {k o : Nat} (ho : oc s k = o) (h0 : o ≠ 0) (h4 : o ≠ 4) (hc : plS (rcl (missS s) k o) ≤ jrs (rcl (missS s) k o)) : pnd (rcl (missS s) k o) < jrs (rcl (missS s) k o) := by
  have hm := oc_m (s := s) (k := k) (by rw [ho]; exact h0) (by rw [ho]; exact h4)
  have hk := rcl_keep (missS s) k o
  have e3 : jrs (missS s) = jrs s := rfl
  have e4 : pnd (missS s) = pnd s := rfl
  have e5 : plS (missS s) = plS s := rfl
  rw [hk.2.2.2.1, hk.2.2.1, e4, e3]
  exact hm.2 (by rw [hk.2.2.2.2, hk.2.2.1, e5, e3] at hc; exact hc)
theorem br_wf {s : PS} (h : WF s) {k : Nat} (hk : k < 40) : WF (br s k) := by
  by_cases h4 : oc s k = 4
  · rw [br_4 h4]; exact h
  · by_cases h0 : oc s k = 0
    · rw [br_0 h0]; exact hitS_wf h k
    · rw [br_m rfl h0 h4]
      have hm := mid_ok h rfl h0 h4
      exact plc_wf hm.1 _ hk hm.2.1 hm.2.2
theorem plc_pl (s : PS) (k o : Nat) : plS (plc s k o) = plS s := by
  obtain ⟨N, T, A, B, to, pi, fe, pl, go, hi, mi, re, lo⟩ := s
  unfold plc
  dsimp only
  split <;> rfl
theorem plc_jr (s : PS) (k o : Nat) : jrs (plc s k o) = jrs s + 1 := by
  obtain ⟨N, T, A, B, to, pi, fe, pl, go, hi, mi, re, lo⟩ := s
  unfold plc
  dsimp only
  split
  · show (N ++ [k]).length + T.length = _
    rw [List.length_append, List.length_singleton]
    show _ = N.length + T.length + 1
    omega
  · show N.length + (T ++ [k]).length = _
    rw [List.length_append, List.length_singleton]
    show _ = N.length + T.length + 1
    omega
/-- never more jars than places -/
theorem br_jp {s : PS} (h : WF s) {k : Nat} (hj : jrs s ≤ plS s) : jrs (br s k) ≤ plS (br s k) ∧ plS (br s k) = plS s := by
  by_cases h4 : oc s k = 4
  · rw [br_4 h4]; exact ⟨hj, rfl⟩
  · by_cases h0 : oc s k = 0
    · rw [br_0 h0]; exact ⟨hj, rfl⟩
    · rw [br_m rfl h0 h4]
      have hk := rcl_keep (missS s) k (oc s k)
      have hw := rcl_wf (missS_wf h) k (oc s k)
      have e3 : jrs (missS s) = jrs s := rfl
      have e5 : plS (missS s) = plS s := rfl
      rw [plc_pl, plc_jr]
      by_cases hc : plS (rcl (missS s) k (oc s k)) ≤ jrs (rcl (missS s) k (oc s k))
      · rw [if_pos hc]
        have hs := sw_ok hw (mid_pj rfl h0 h4 hc)
        have h5 := hs.2.2.2.1
        rw [hs.2.2.2.2]
        rw [hk.2.2.2.2, e5]
        rw [hk.2.2.1, e3] at h5
        exact ⟨by omega, rfl⟩
      · rw [if_neg hc]
        rw [hk.2.2.2.2, e5]
        rw [hk.2.2.2.2, e5] at hc
        exact ⟨by omega, rfl⟩
theorem srs_wf {fr st : Nat} : ∀ (n i : Nat) (s : PS), WF s → WF (srs fr st n i s)
  | 0, _, _, h => h
  | n + 1, i, s, h => srs_wf n (i + 1) _ (br_wf h (Nat.mod_lt _ (by decide)))
theorem srs_jp {fr st : Nat} : ∀ (n i : Nat) (s : PS), WF s → jrs s ≤ plS s → jrs (srs fr st n i s) ≤ plS (srs fr st n i s)
  | 0, _, _, _, h => h
  | n + 1, i, s, hW, h => srs_jp n (i + 1) _ (br_wf hW (Nat.mod_lt _ (by decide))) (br_jp hW h).1
theorem swM_stop {p : Nat} {s : PS} (h : ¬ p < jrs s) : ∀ n : Nat, swM p n s = s
  | 0 => rfl
  | n + 1 => if_neg h
theorem swM_go {p n : Nat} {s : PS} (h : p < jrs s) : swM p (n + 1) s = swM p n (sw s).1 := if_pos h
theorem swM_ok {p : Nat} : ∀ (n : Nat) (s : PS), WF s → pnd s ≤ p → jrs s ≤ p + n → WF (swM p n s) ∧ jrs (swM p n s) ≤ max p (min (jrs s) p) ∧ plS (swM p n s) = plS s ∧ pnd (swM p n s) = pnd s
  | 0, s, hW, hp, hj => ⟨hW, by show jrs s ≤ _; omega, rfl, rfl⟩
  | n + 1, s, hW, hp, hj => by
    by_cases h : p < jrs s
    · rw [swM_go h]
      have hs := sw_ok hW (by omega)
      have h5 := hs.2.2.2.1
      obtain ⟨a1, a2, a3, a4⟩ := swM_ok n (sw s).1 hs.2.1 (by rw [hs.2.2.1]; exact hp) (by omega)
      exact ⟨a1, by omega, a3.trans hs.2.2.2.2, a4.trans hs.2.2.1⟩
    · rw [swM_stop h]
      exact ⟨hW, by omega, rfl, rfl⟩
theorem setPl_wf {s : PS} (h : WF s) {p : Nat} (h2 : 2 ≤ p) (h12 : p ≤ 12) : WF (setPl p s) := by
  obtain ⟨N, T, A, B, to, pi, fe, pl, go, hi, mi, re, lo⟩ := s
  obtain ⟨kN, kT, kA, kB, nd, len, lA, lB, p2, p12, g12, t1, p9⟩ := h
  exact ⟨kN, kT, kA, kB, nd, len, lA, lB, h2, h12, g12, t1, p9⟩
theorem cutS_wf {s : PS} (h : WF s) {p : Nat} (h12 : p ≤ 12) : WF (cutS p s) := by
  obtain ⟨N, T, A, B, to, pi, fe, pl, go, hi, mi, re, lo⟩ := s
  obtain ⟨kN, kT, kA, kB, nd, len, lA, lB, p2, p12, g12, t1, p9⟩ := h
  exact ⟨kN, kT, kA.tr p, kB.tr p, nd, len, by rw [tr_len]; omega, by rw [tr_len]; omega, p2, p12, by omega, t1, p9⟩
theorem jrs_12 {s : PS} (h : WF s) : jrs s ≤ 12 := by
  obtain ⟨N, T, A, B, to, pi, fe, pl, go, hi, mi, re, lo⟩ := s
  exact h.2.2.2.2.2.1
theorem rsz_ok {s : PS} (h : WF s) {p : Nat} (h2 : 2 ≤ p) (h12 : p ≤ 12) (hp : pnd s ≤ p) : WF (rsz p s) ∧ jrs (rsz p s) ≤ plS (rsz p s) ∧ plS (rsz p s) = p := by
  have w := setPl_wf h h2 h12
  have e1 : pnd (setPl p s) = pnd s := rfl
  have e2 : jrs (setPl p s) = jrs s := rfl
  have e3 : plS (setPl p s) = p := rfl
  have j := jrs_12 h
  obtain ⟨a1, a2, a3, a4⟩ := swM_ok (p := p) 12 (setPl p s) w (by rw [e1]; exact hp) (by rw [e2]; omega)
  have e4 : jrs (rsz p s) = jrs (swM p 12 (setPl p s)) := rfl
  have e5 : plS (rsz p s) = plS (swM p 12 (setPl p s)) := rfl
  refine ⟨cutS_wf a1 h12, ?_, ?_⟩
  · rw [e4, e5, a3, e3]
    omega
  · rw [e5, a3, e3]
theorem nI_m9 {n : Nat} (h : n < 2147483648) : nI n ≠ -9 := fun e => by
  have := congrArg Int32.toInt e
  rw [nI_toInt h] at this
  have h2 : (-9 : Int32).toInt = -9 := by decide
  omega
