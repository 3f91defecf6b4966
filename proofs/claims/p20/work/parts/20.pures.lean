/-! HOW MANY JARS A SWEEPING LOOKS AT, AND WHO LEAVES -/
def fu (to pi : Nat → Nat) (L : List Nat) : Nat := L.findIdx (fun k => decide (pi k = 0 ∧ to k = 0))
def el (pi : Nat → Nat) : List Nat → Nat
  | [] => 0
  | k :: L => if pc pi L < L.length then el pi L + 1 else if pi k = 0 then 1 else 0
def cT (to pi : Nat → Nat) (T : List Nat) : Nat := if fu to pi T < T.length then fu to pi T + 1 else T.length + fi pi T + 1
def nu : PS → Nat
  | (N, T, _, _, to, pi, _, _, go, _) => if gv N T pi go = 0 then el pi N + 2 * (T.length + tch to pi N) else cT to pi T
theorem el_le (pi : Nat → Nat) : ∀ L : List Nat, el pi L ≤ L.length
  | [] => Nat.le_refl _
  | k :: L => by
    have := el_le pi L
    unfold el
    simp only [List.length_cons]
    split
    · omega
    · split <;> omega
theorem el_0 {pi : Nat → Nat} : ∀ {L : List Nat}, ¬ pc pi L < L.length → el pi L = 0
  | [], _ => rfl
  | k :: L, h => by
    rw [pc_cons, List.length_cons] at h
    have h1 := pc_le pi L
    unfold el
    by_cases e : 0 < pi k
    · rw [if_pos e] at h
      rw [if_neg (by omega), if_neg (by omega)]
    · rw [if_neg e] at h
      exact absurd (show pc pi L + 0 < L.length + 1 by omega) h
theorem el_sn {pi : Nat → Nat} {k : Nat} (hp : 0 < pi k) : ∀ L : List Nat, el pi (L ++ [k]) = el pi L
  | [] => by
    show (if pc pi [] < ([] : List Nat).length then _ else _) = 0
    rw [if_neg (by simp), if_neg (by omega)]
  | a :: L => by
    have ih := el_sn hp L
    rw [List.cons_append]
    unfold el
    rw [ih, pc_snoc, if_pos hp, List.length_append, List.length_singleton]
    by_cases h : pc pi L < L.length
    · rw [if_pos h, if_pos (by omega)]
    · rw [if_neg h, if_neg (by omega)]
theorem el_pin {pi : Nat → Nat} {k : Nat} {L : List Nat} (hp : 0 < pi k) (h : pc pi L < L.length) : el pi (L ++ [k]) + 1 = el pi (k :: L) := by
  rw [el_sn hp]
  show _ = (if pc pi L < L.length then _ else _)
  rw [if_pos h]
theorem el_fr {pi : Nat → Nat} {k : Nat} {L : List Nat} (hp : pi k = 0) : el pi L + 1 ≤ el pi (k :: L) := by
  show _ ≤ (if pc pi L < L.length then _ else _)
  by_cases h : pc pi L < L.length
  · rw [if_pos h]
    exact Nat.le_refl _
  · rw [if_neg h, if_pos hp, el_0 h]
    exact Nat.le_refl _
theorem fi_lt {pi : Nat → Nat} {L : List Nat} (h : pc pi L < L.length) : fi pi L < L.length := by
  refine List.findIdx_lt_length_of_exists ?_
  refine Classical.byContradiction (fun z => ?_)
  have h2 : pc pi L = L.length := List.countP_eq_length.mpr (fun x hx => by
    have : ¬ pi x = 0 := fun e => z ⟨x, hx, decide_eq_true e⟩
    exact decide_eq_true (by omega))
  omega
theorem cT_le {to pi : Nat → Nat} {T : List Nat} (h : pc pi T < T.length) : cT to pi T ≤ 2 * T.length := by
  have h1 := fi_lt h
  unfold cT
  split <;> omega
theorem cT_pos (to pi : Nat → Nat) (T : List Nat) : 1 ≤ cT to pi T := by
  unfold cT
  split <;> omega
theorem fu_cn {to pi : Nat → Nat} {k : Nat} {L : List Nat} (h : ¬ (pi k = 0 ∧ to k = 0)) : fu to pi (k :: L) = fu to pi L + 1 := by
  unfold fu
  rw [List.findIdx_cons, decide_eq_false h]
  rfl
theorem fu_sn (to pi : Nat → Nat) (k : Nat) (L : List Nat) : fu to pi (L ++ [k]) = if fu to pi L < L.length then fu to pi L else L.length + (if pi k = 0 ∧ to k = 0 then 0 else 1) := by
  unfold fu
  rw [List.findIdx_append]
  by_cases h : L.findIdx (fun k => decide (pi k = 0 ∧ to k = 0)) < L.length
  · rw [if_pos h, if_pos h]
  · rw [if_neg h, if_neg h]
    by_cases e : pi k = 0 ∧ to k = 0
    · rw [if_pos e, List.findIdx_cons, decide_eq_true e]
      simp
    · rw [if_neg e, List.findIdx_cons, decide_eq_false e]
      simp only [List.findIdx_nil, cond_false]
      omega
theorem fu_le (to pi : Nat → Nat) (L : List Nat) : fu to pi L ≤ L.length := List.findIdx_le_length
theorem fu_up {to pi : Nat → Nat} {k : Nat} : ∀ {L : List Nat}, k ∉ L → fu (va_up to k 0) pi L = fu to pi L
  | [], _ => rfl
  | a :: L, h => by
    have ha : a ≠ k := fun e => h (e ▸ List.mem_cons_self)
    have ih := fu_up (to := to) (pi := pi) (k := k) (L := L) (fun z => h (List.mem_cons_of_mem _ z))
    unfold fu at ih ⊢
    rw [List.findIdx_cons, List.findIdx_cons, ih, va_up_ne _ _ ha]
theorem cT_pin {to pi : Nat → Nat} {k : Nat} {T : List Nat} (hp : 0 < pi k) (h : pc pi T < T.length) : cT to pi (T ++ [k]) + 1 = cT to pi (k :: T) := by
  have h1 := fi_pin hp h
  have h2 := fu_sn to pi k T
  have h3 := fu_cn (to := to) (pi := pi) (k := k) (L := T) (fun z => by omega)
  have h4 := fu_le to pi T
  have h5 : ¬ (pi k = 0 ∧ to k = 0) := fun z => by omega
  rw [if_neg h5] at h2
  unfold cT
  rw [h3, List.length_append, List.length_singleton, List.length_cons]
  by_cases e : fu to pi T < T.length
  · rw [if_pos e] at h2
    rw [h2, if_pos (by omega), if_pos (by omega)]
  · rw [if_neg e] at h2
    rw [h2, if_neg (by omega), if_neg (by omega)]
    omega
theorem cT_tch {to pi : Nat → Nat} {k : Nat} {T : List Nat} (hp : pi k = 0) (ht : 0 < to k) (hk : k ∉ T) : cT (va_up to k 0) pi (T ++ [k]) + 1 ≤ cT to pi (k :: T) := by
  have h2 := fu_sn (va_up to k 0) pi k T
  have h3 := fu_cn (to := to) (pi := pi) (k := k) (L := T) (fun z => by omega)
  have h4 := fu_le to pi T
  have h5 : pi k = 0 ∧ va_up to k 0 k = 0 := ⟨hp, va_up_self _ _ _⟩
  rw [fu_up hk, if_pos h5] at h2
  unfold cT
  rw [h3, List.length_append, List.length_singleton, List.length_cons]
  by_cases e : fu to pi T < T.length
  · rw [if_pos e] at h2
    rw [h2, if_pos (by omega), if_pos (by omega)]
    omega
  · rw [if_neg e] at h2
    rw [h2, if_pos (by omega), if_neg (by omega)]
    omega
theorem nu_lt {s : PS} (h : WF s) (hpj : pnd s < jrs s) (hn : (lk s).2 = none) : nu (lk s).1 < nu s := by
  obtain ⟨N, T, A, B, to, pi, fe, pl, go, hi, mi, re, lo⟩ := s
  obtain ⟨kN, kT, kA, kB, nd, len, lA, lB, p2, p12, g12, t1, p9⟩ := h
  have six := lk_six (N := N) (T := T) (pi := pi) (to := to) (go := go) hpj
  rcases six with ⟨k, N', rfl, hg, h | h | h⟩ | ⟨k, T', rfl, hg, h | h | h⟩
  · have hc := gv_0c hg
    rw [pc_cons, if_pos h, List.length_cons] at hc
    have hf := el_pin h (L := N') (by omega)
    have hg2 : gv (N' ++ [k]) T pi go = 0 := (gv_eq (by rw [pc_cons, pc_snoc]) (by simp) rfl rfl).trans hg
    rw [lk_0p hg h]
    show (if gv (N' ++ [k]) T pi go = 0 then el pi (N' ++ [k]) + 2 * (T.length + tch to pi (N' ++ [k])) else cT to pi T) < (if gv (k :: N') T pi go = 0 then el pi (k :: N') + 2 * (T.length + tch to pi (k :: N')) else cT to pi T)
    rw [if_pos hg, if_pos hg2, tch_cons, tch_snoc]
    omega
  · rw [lk_0t hg h.1 h.2]
    have hk1 : k ∉ N' ++ T := (List.nodup_cons.mp nd).1
    have hk2 : k ∉ N' := fun z => hk1 (List.mem_append_left _ z)
    have e1 := el_fr (L := N') h.1
    have e2 : pc pi (T ++ [k]) < (T ++ [k]).length := by
      have := pc_le pi T
      rw [pc_snoc, if_neg (by omega), List.length_append, List.length_singleton]
      omega
    have e3 := cT_le (to := va_up to k 0) e2
    rw [List.length_append, List.length_singleton] at e3
    show (if gv N' (T ++ [k]) pi go = 0 then el pi N' + 2 * ((T ++ [k]).length + tch (va_up to k 0) pi N') else cT (va_up to k 0) pi (T ++ [k])) < (if gv (k :: N') T pi go = 0 then el pi (k :: N') + 2 * (T.length + tch to pi (k :: N')) else cT to pi T)
    rw [if_pos hg, tch_cons, if_pos h, tch_up hk2, List.length_append, List.length_singleton]
    split <;> omega
  · rw [lk_0l hg h.1 h.2] at hn
    cases hn
  · have hc := gv_1c hg hpj
    rw [pc_cons, if_pos h, List.length_cons] at hc
    have hf := cT_pin (to := to) h (T := T') (by omega)
    have hg2 : gv N (T' ++ [k]) pi go = 1 := (gv_eq rfl rfl (by rw [pc_cons, pc_snoc]) (by simp)).trans hg
    rw [lk_1p hg h]
    show (if gv N (T' ++ [k]) pi go = 0 then el pi N + 2 * ((T' ++ [k]).length + tch to pi N) else cT to pi (T' ++ [k])) < (if gv N (k :: T') pi go = 0 then el pi N + 2 * ((k :: T').length + tch to pi N) else cT to pi (k :: T'))
    rw [if_neg (by omega), if_neg (by omega)]
    omega
  · rw [lk_1t hg h.1 h.2]
    have hk0 : k ∉ T' := (List.nodup_cons.mp (List.nodup_append.mp nd).2.1).1
    have hf := cT_tch h.1 h.2 hk0
    have hg2 : gv N (T' ++ [k]) pi go = 1 := (gv_eq rfl rfl (by rw [pc_cons, pc_snoc]) (by simp)).trans hg
    show (if gv N (T' ++ [k]) pi go = 0 then el pi N + 2 * ((T' ++ [k]).length + tch (va_up to k 0) pi N) else cT (va_up to k 0) pi (T' ++ [k])) < (if gv N (k :: T') pi go = 0 then el pi N + 2 * ((k :: T').length + tch to pi N) else cT to pi (k :: T'))
    rw [if_neg (by omega), if_neg (by omega)]
    omega
  · rw [lk_1l hg h.1 h.2] at hn
    cases hn
theorem nu_pos {s : PS} (hpj : pnd s < jrs s) : 1 ≤ nu s := by
  obtain ⟨N, T, A, B, to, pi, fe, pl, go, hi, mi, re, lo⟩ := s
  show 1 ≤ (if gv N T pi go = 0 then el pi N + 2 * (T.length + tch to pi N) else cT to pi T)
  by_cases hg : gv N T pi go = 0
  · rw [if_pos hg]
    have hc := gv_0c hg
    obtain ⟨k, N', rfl⟩ := gv_0 hg
    by_cases e : pi k = 0
    · have := el_fr (L := N') e
      omega
    · rw [pc_cons, if_pos (by omega), List.length_cons] at hc
      have := el_pin (pi := pi) (k := k) (L := N') (by omega) (by omega)
      omega
  · rw [if_neg hg]
    exact cT_pos _ _ _
theorem nu_le {s : PS} (hpj : pnd s < jrs s) : nu s ≤ 3 * jrs s := by
  obtain ⟨N, T, A, B, to, pi, fe, pl, go, hi, mi, re, lo⟩ := s
  show (if gv N T pi go = 0 then el pi N + 2 * (T.length + tch to pi N) else cT to pi T) ≤ 3 * (N.length + T.length)
  have h1 := el_le pi N
  have h2 := tch_le to pi N
  rcases gv_01 N T pi go with hg | hg
  · rw [if_pos hg]
    omega
  · rw [if_neg (by omega)]
    have := cT_le (to := to) (gv_1c hg hpj)
    omega
def loS (s : PS) : Int32 := s.2.2.2.2.2.2.2.2.2.2.2.2
def miS (s : PS) : Int32 := s.2.2.2.2.2.2.2.2.2.2.1
/-- one look: what it keeps, and who leaves -/
theorem lk_f {s : PS} (h : WF s) (hpj : pnd s < jrs s) : piS (lk s).1 = piS s ∧ hiS (lk s).1 = hiS s ∧ miS (lk s).1 = miS s ∧ loS (lk s).1 = loS s + 1 ∧ (∀ y : Nat, (inn (lk s).1 y ∨ (lk s).2 = some y) ↔ inn s y) ∧ ∀ x : Nat, (lk s).2 = some x → ¬ inn (lk s).1 x ∧ piS s x = 0 := by
  obtain ⟨N, T, A, B, to, pi, fe, pl, go, hi, mi, re, lo⟩ := s
  obtain ⟨kN, kT, kA, kB, nd, -⟩ := h
  rcases lk_six (N := N) (T := T) (pi := pi) (to := to) (go := go) hpj with ⟨k, N', rfl, hg, h | h | h⟩ | ⟨k, T', rfl, hg, h | h | h⟩
  · rw [lk_0p hg h]
    refine ⟨rfl, rfl, rfl, rfl, fun y => ?_, fun x hx => by cases hx⟩
    show (((y ∈ N' ++ [k]) ∨ y ∈ T) ∨ none = some y) ↔ (y ∈ k :: N' ∨ y ∈ T)
    simp only [List.mem_append, List.mem_cons, List.not_mem_nil, or_false, reduceCtorEq]
    constructor
    · rintro ((a | a) | a)
      · exact Or.inl (Or.inr a)
      · exact Or.inl (Or.inl a)
      · exact Or.inr a
    · rintro ((a | a) | a)
      · exact Or.inl (Or.inr a)
      · exact Or.inl (Or.inl a)
      · exact Or.inr a
  · rw [lk_0t hg h.1 h.2]
    refine ⟨rfl, rfl, rfl, rfl, fun y => ?_, fun x hx => by cases hx⟩
    show ((y ∈ N' ∨ y ∈ T ++ [k]) ∨ none = some y) ↔ (y ∈ k :: N' ∨ y ∈ T)
    simp only [List.mem_append, List.mem_cons, List.not_mem_nil, or_false, reduceCtorEq]
    constructor
    · rintro (a | (a | a))
      · exact Or.inl (Or.inr a)
      · exact Or.inr a
      · exact Or.inl (Or.inl a)
    · rintro ((a | a) | a)
      · exact Or.inr (Or.inr a)
      · exact Or.inl a
      · exact Or.inr (Or.inl a)
  · rw [lk_0l hg h.1 h.2]
    have hk1 : k ∉ N' ++ T := (List.nodup_cons.mp nd).1
    refine ⟨rfl, rfl, rfl, rfl, fun y => ?_, fun x hx => ?_⟩
    · show ((y ∈ N' ∨ y ∈ T) ∨ some k = some y) ↔ (y ∈ k :: N' ∨ y ∈ T)
      simp only [List.mem_cons, Option.some.injEq]
      constructor
      · rintro ((a | a) | a)
        · exact Or.inl (Or.inr a)
        · exact Or.inr a
        · exact Or.inl (Or.inl a.symm)
      · rintro ((a | a) | a)
        · exact Or.inr a.symm
        · exact Or.inl (Or.inl a)
        · exact Or.inl (Or.inr a)
    · cases hx
      exact ⟨fun z => hk1 (List.mem_append.mpr z), h.1⟩
  · rw [lk_1p hg h]
    refine ⟨rfl, rfl, rfl, rfl, fun y => ?_, fun x hx => by cases hx⟩
    show ((y ∈ N ∨ y ∈ T' ++ [k]) ∨ none = some y) ↔ (y ∈ N ∨ y ∈ k :: T')
    simp only [List.mem_append, List.mem_cons, List.not_mem_nil, or_false, reduceCtorEq]
    constructor
    · rintro (a | (a | a))
      · exact Or.inl a
      · exact Or.inr (Or.inr a)
      · exact Or.inr (Or.inl a)
    · rintro (a | (a | a))
      · exact Or.inl a
      · exact Or.inr (Or.inr a)
      · exact Or.inr (Or.inl a)
  · rw [lk_1t hg h.1 h.2]
    refine ⟨rfl, rfl, rfl, rfl, fun y => ?_, fun x hx => by cases hx⟩
    show ((y ∈ N ∨ y ∈ T' ++ [k]) ∨ none = some y) ↔ (y ∈ N ∨ y ∈ k :: T')
    simp only [List.mem_append, List.mem_cons, List.not_mem_nil, or_false, reduceCtorEq]
    constructor
    · rintro (a | (a | a))
      · exact Or.inl a
      · exact Or.inr (Or.inr a)
      · exact Or.inr (Or.inl a)
    · rintro (a | (a | a))
      · exact Or.inl a
      · exact Or.inr (Or.inr a)
      · exact Or.inr (Or.inl a)
  · rw [lk_1l hg h.1 h.2]
    have hk0 : k ∉ T' ∧ k ∉ N := by
      have h1 := List.nodup_append.mp nd
      exact ⟨(List.nodup_cons.mp h1.2.1).1, fun z => h1.2.2 k z k List.mem_cons_self rfl⟩
    refine ⟨rfl, rfl, rfl, rfl, fun y => ?_, fun x hx => ?_⟩
    · show ((y ∈ N ∨ y ∈ T') ∨ some k = some y) ↔ (y ∈ N ∨ y ∈ k :: T')
      simp only [List.mem_cons, Option.some.injEq]
      constructor
      · rintro ((a | a) | a)
        · exact Or.inl a
        · exact Or.inr (Or.inr a)
        · exact Or.inr (Or.inl a.symm)
      · rintro (a | (a | a))
        · exact Or.inl (Or.inl a)
        · exact Or.inr a.symm
        · exact Or.inl (Or.inr a)
    · cases hx
      exact ⟨fun z => z.elim hk0.2 hk0.1, h.1⟩
/-- sweeping: what it keeps, who leaves, how many looks -/
def SwF (n : Nat) (s : PS) (r : PS × Nat) : Prop := piS r.1 = piS s ∧ hiS r.1 = hiS s ∧ miS r.1 = miS s ∧ (∃ i : Nat, 1 ≤ i ∧ i ≤ n ∧ loS r.1 = loS s + nI i) ∧ (∀ y : Nat, (inn r.1 y ∨ y = r.2) ↔ inn s y) ∧ ¬ inn r.1 r.2 ∧ piS s r.2 = 0
theorem swN_f : ∀ (n : Nat) (s : PS), WF s → pnd s < jrs s → nu s ≤ n → ∃ r : PS × Nat, swN n s = some r ∧ SwF n s r
  | 0, s, _, hpj, h => absurd (nu_pos hpj) (by omega)
  | n + 1, s, hW, hpj, hm => by
    have w := lk_wf hW hpj
    have pj := lk_pj hpj
    have lf := lk_f hW hpj
    cases hl : lk s with
    | mk s1 o =>
      rw [hl] at w pj lf
      obtain ⟨f1, f2, f3, f4, f5, f6⟩ := lf
      dsimp only at f1 f2 f3 f4 f5 f6
      cases o with
      | some k =>
        refine ⟨(s1, k), by simp only [swN, hl], f1, f2, f3, ⟨1, Nat.le_refl _, by omega, f4⟩, fun y => ?_, (f6 k rfl).1, (f6 k rfl).2⟩
        rw [← f5 y]
        simp only [Option.some.injEq]
        constructor
        · rintro (a | a)
          · exact Or.inl a
          · exact Or.inr a.symm
        · rintro (a | a)
          · exact Or.inl a
          · exact Or.inr a.symm
      | none =>
        have hlt := nu_lt hW hpj (by rw [hl])
        rw [hl] at hlt
        have j1 : jrs s1 = jrs s := by simpa using pj.2.1
        have hlt' : nu s1 < nu s := hlt
        obtain ⟨r, r1, g1, g2, g3, ⟨i, i1, i2, g4⟩, g5, g6, g7⟩ := swN_f n s1 w (by rw [pj.1, j1]; exact hpj) (by omega)
        refine ⟨r, by simp only [swN, hl]; exact r1, g1.trans f1, g2.trans f2, g3.trans f3, ⟨i + 1, by omega, by omega, ?_⟩, fun y => ?_, g6, by rw [← f1]; exact g7⟩
        · rw [g4, f4, ← nI_1 i, Int32.add_assoc, Int32.add_comm 1 (nI i)]
        · rw [g5 y, ← f5 y]
          simp
theorem swN_mono : ∀ (n m : Nat) (s : PS) (r : PS × Nat), n ≤ m → swN n s = some r → swN m s = some r
  | 0, _, _, _, _, h => by cases h
  | n + 1, 0, _, _, hm, _ => absurd hm (by omega)
  | n + 1, m + 1, s, r, hm, h => by
    cases hl : lk s with
    | mk s1 o =>
      cases o with
      | some k =>
        simp only [swN, hl] at h ⊢
        exact h
      | none =>
        simp only [swN, hl] at h ⊢
        exact swN_mono n m s1 r (by omega) h
theorem sw_f {s : PS} (h : WF s) (hpj : pnd s < jrs s) : swN (3 * jrs s) s = some ((sw s).1, (sw s).2) ∧ SwF (3 * jrs s) s (sw s) := by
  obtain ⟨r, h1, h2⟩ := swN_f (3 * jrs s) s h hpj (nu_le hpj)
  have j := jrs_12 h
  have h3 := swN_mono (3 * jrs s) 200 s r (by omega) h1
  have e : sw s = r := by unfold sw; rw [h3]; rfl
  rw [e]
  exact ⟨h1, h2⟩
/-- what a fetch does, where it can be done and there is no jar -/
theorem br_fct {s : PS} (h : WF s) {k : Nat} (h0 : oc s k ≠ 0) (h4 : oc s k ≠ 4) : hiS (br s k) = hiS s ∧ miS (br s k) = miS s + 1 ∧ jrs (br s k) = (if plS s ≤ jrs s then jrs s else jrs s + 1) ∧ ¬ inn s k ∧
    ∃ x i : Nat, (plS s ≤ jrs s → inn s x ∧ piS s x = 0 ∧ 1 ≤ i ∧ i ≤ 3 * jrs s ∧ loS (br s k) = loS s + nI i) ∧ (¬ plS s ≤ jrs s → x = 40 ∧ loS (br s k) = loS s) ∧ ∀ y : Nat, inn (br s k) y ↔ ((inn s y ∧ y ≠ x) ∨ y = k) := by
  rw [br_m rfl h0 h4]
  have hm := oc_m (s := s) (k := k) h0 h4
  have hni : ¬ inn s k := fun z => z.elim hm.1.1 hm.1.2
  have hk := rcl_keep (missS s) k (oc s k)
  have hw := rcl_wf (missS_wf h) k (oc s k)
  have hpj := mid_pj (s := s) (k := k) rfl h0 h4
  have e1 : (missS s).1 = s.1 := rfl
  have e2 : (missS s).2.1 = s.2.1 := rfl
  have e3 : jrs (missS s) = jrs s := rfl
  have e5 : plS (missS s) = plS s := rfl
  have q1 : hiS (rcl (missS s) k (oc s k)) = hiS s ∧ miS (rcl (missS s) k (oc s k)) = miS s + 1 ∧ loS (rcl (missS s) k (oc s k)) = loS s ∧ piS (rcl (missS s) k (oc s k)) = piS s := by
    obtain ⟨N, T, A, B, to, pi, fe, pl, go, hi, mi, re, lo⟩ := s
    unfold rcl missS
    dsimp only
    split
    · exact ⟨rfl, rfl, rfl, rfl⟩
    · split
      · exact ⟨rfl, rfl, rfl, rfl⟩
      · exact ⟨rfl, rfl, rfl, rfl⟩
  have q2 : ∀ y : Nat, inn (rcl (missS s) k (oc s k)) y ↔ inn s y := fun y => by
    unfold inn
    rw [hk.1, hk.2.1, e1, e2]
  have q3 : ∀ (z : PS) (o : Nat), hiS (plc z k o) = hiS z ∧ miS (plc z k o) = miS z ∧ loS (plc z k o) = loS z ∧ ∀ y : Nat, inn (plc z k o) y ↔ (inn z y ∨ y = k) := by
    intro z o
    obtain ⟨N, T, A, B, to, pi, fe, pl, go, hi, mi, re, lo⟩ := z
    unfold plc
    dsimp only
    split
    · refine ⟨rfl, rfl, rfl, fun y => ?_⟩
      show (y ∈ N ++ [k] ∨ y ∈ T) ↔ ((y ∈ N ∨ y ∈ T) ∨ y = k)
      simp only [List.mem_append, List.mem_cons, List.not_mem_nil, or_false]
      constructor
      · rintro ((a | a) | a)
        · exact Or.inl (Or.inl a)
        · exact Or.inr a
        · exact Or.inl (Or.inr a)
      · rintro ((a | a) | a)
        · exact Or.inl (Or.inl a)
        · exact Or.inr a
        · exact Or.inl (Or.inr a)
    · refine ⟨rfl, rfl, rfl, fun y => ?_⟩
      show (y ∈ N ∨ y ∈ T ++ [k]) ↔ ((y ∈ N ∨ y ∈ T) ∨ y = k)
      simp only [List.mem_append, List.mem_cons, List.not_mem_nil, or_false]
      constructor
      · rintro (a | (a | a))
        · exact Or.inl (Or.inl a)
        · exact Or.inl (Or.inr a)
        · exact Or.inr a
      · rintro ((a | a) | a)
        · exact Or.inl a
        · exact Or.inr (Or.inl a)
        · exact Or.inr (Or.inr a)
  rw [plc_jr]
  by_cases hc : plS s ≤ jrs s
  · have hc' : plS (rcl (missS s) k (oc s k)) ≤ jrs (rcl (missS s) k (oc s k)) := by rw [hk.2.2.2.2, hk.2.2.1, e5, e3]; exact hc
    rw [if_pos hc', if_pos hc]
    have so := sw_ok hw (hpj hc')
    obtain ⟨-, f1, f2, f3, ⟨i, i1, i2, f4⟩, f5, f6, f7⟩ := sw_f hw (hpj hc')
    obtain ⟨p1, p2, p3, p4⟩ := q3 (sw (rcl (missS s) k (oc s k))).1 (oc s k)
    rw [hk.2.2.1, e3] at i2
    refine ⟨p1.trans (f2.trans q1.1), p2.trans (f3.trans q1.2.1), by rw [so.2.2.2.1, hk.2.2.1, e3], hni, (sw (rcl (missS s) k (oc s k))).2, i, fun _ => ⟨(q2 _).mp ((f5 _).mp (Or.inr rfl)), by rw [← q1.2.2.2]; exact f7, i1, i2, by rw [p3, f4, q1.2.2.1]⟩, fun z => absurd hc z, fun y => ?_⟩
    rw [p4 y, ← q2 y, ← f5 y]
    constructor
    · rintro (a | a)
      · exact Or.inl ⟨Or.inl a, fun e => f6 (e ▸ a)⟩
      · exact Or.inr a
    · rintro (⟨a | a, b⟩ | a)
      · exact Or.inl a
      · exact absurd a b
      · exact Or.inr a
  · have hc' : ¬ plS (rcl (missS s) k (oc s k)) ≤ jrs (rcl (missS s) k (oc s k)) := by rw [hk.2.2.2.2, hk.2.2.1, e5, e3]; exact hc
    rw [if_neg hc', if_neg hc]
    obtain ⟨p1, p2, p3, p4⟩ := q3 (rcl (missS s) k (oc s k)) (oc s k)
    refine ⟨p1.trans q1.1, p2.trans q1.2.1, by rw [hk.2.2.1, e3], hni, 40, 0, fun z => absurd z hc, fun _ => ⟨rfl, p3.trans q1.2.2.1⟩, fun y => ?_⟩
    rw [p4 y, q2 y]
    have hy : inn s y → y ≠ 40 := fun z e => by
      obtain ⟨N, T, A, B, to, pi, fe, pl, go, hi, mi, re, lo⟩ := s
      have := z.elim (h.1 y) (h.2.1 y)
      omega
    constructor
    · rintro (a | a)
      · exact Or.inl ⟨a, hy a⟩
      · exact Or.inr a
    · rintro (a | a)
      · exact Or.inl a.1
      · exact Or.inr a
