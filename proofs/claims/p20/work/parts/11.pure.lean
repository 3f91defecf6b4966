/-! THE PANTRY AS A VALUE: the rows new, tried; the lists of new, tried; touches, pins, fetches; places, goal, hits, misses, remembered, looks -/
abbrev PS : Type := List Nat × List Nat × List Nat × List Nat × (Nat → Nat) × (Nat → Nat) × (Nat → Int32) × Nat × Nat × Int32 × Int32 × Int32 × Int32
/-- what its seven rows of numbers hold -/
abbrev PG : Type := (Nat → Int32) × (Nat → Int32) × (Nat → Int32) × (Nat → Int32) × (Nat → Int32) × (Nat → Int32) × (Nat → Int32)
def SR : PS → PG → Prop
  | (N, T, A, B, to, pi, fe, _, _, _, _, _, _), (g0, g1, g2, g3, g4, g5, g6) => RowL N g0 ∧ RowL T g1 ∧ RowL A g2 ∧ RowL B g3 ∧ (∀ k : Nat, k < 40 → g4 k = nI (to k)) ∧ (∀ k : Nat, k < 40 → g5 k = nI (pi k)) ∧ ∀ k : Nat, k < 40 → g6 k = fe k
def WF : PS → Prop
  | (N, T, A, B, to, pi, _, pl, go, _, _, _, _) => KL N ∧ KL T ∧ KL A ∧ KL B ∧ (N ++ T).Nodup ∧ N.length + T.length ≤ 12 ∧ A.length ≤ 12 ∧ B.length ≤ 12 ∧ 2 ≤ pl ∧ pl ≤ 12 ∧ go ≤ 12 ∧ (∀ k : Nat, to k ≤ 1) ∧ ∀ k : Nat, pi k ≤ 9
/-- pinned jars of a row -/
def pc (pi : Nat → Nat) (L : List Nat) : Nat := L.countP (fun k => decide (0 < pi k))
theorem pc_le (pi : Nat → Nat) (L : List Nat) : pc pi L ≤ L.length := List.countP_le_length
theorem pc_s {pi : Nat → Nat} {L : List Nat} {i : Nat} (h : i < L.length) : pc pi (L.take (i + 1)) = pc pi (L.take i) + (if 0 < pi (L.getD i 0) then 1 else 0) := by
  unfold pc
  rw [take_s h, List.countP_append, List.countP_singleton]
  by_cases e : 0 < pi (L.getD i 0) <;> simp only [e, decide_true, decide_false, if_true, if_false] <;> rfl
theorem pc_st {pi : Nat → Nat} {L : List Nat} {i : Nat} (h : i < L.length) (hp : 0 < pi (L.getD i 0)) : pc pi (L.take (i + 1)) = pc pi (L.take i) + 1 := by rw [pc_s h, if_pos hp]
theorem pc_sf {pi : Nat → Nat} {L : List Nat} {i : Nat} (h : i < L.length) (hp : ¬ 0 < pi (L.getD i 0)) : pc pi (L.take (i + 1)) = pc pi (L.take i) := by rw [pc_s h, if_neg hp, Nat.add_zero]
theorem pc_tl (pi : Nat → Nat) (L : List Nat) (i : Nat) : pc pi (L.take i) ≤ L.length := Nat.le_trans (pc_le pi _) (by rw [List.length_take]; omega)
/-- the shelf that gives: 0 new, 1 tried -/
def gv (N T : List Nat) (pi : Nat → Nat) (go : Nat) : Nat := if pc pi N < N.length ∧ (max 1 go ≤ N.length ∨ T.length ≤ pc pi T) then 0 else 1
/-- a list that forgets its eldest -/
def tr (m : Nat) (L : List Nat) : List Nat := L.drop (L.length - m)
/-- one jar is looked at -/
def lk : PS → PS × Option Nat
  | (N, T, A, B, to, pi, fe, pl, go, hi, mi, re, lo) =>
    if gv N T pi go = 0 then
      match N with
      | [] => ((N, T, A, B, to, pi, fe, pl, go, hi, mi, re, lo), none)
      | k :: N' =>
        if 0 < pi k then ((N' ++ [k], T, A, B, to, pi, fe, pl, go, hi, mi, re, lo + 1), none)
        else if 0 < to k then ((N', T ++ [k], A, B, va_up to k 0, pi, fe, pl, go, hi, mi, re, lo + 1), none)
        else ((N', T, tr pl (A ++ [k]), B, to, pi, fe, pl, go, hi, mi, re, lo + 1), some k)
    else
      match T with
      | [] => ((N, T, A, B, to, pi, fe, pl, go, hi, mi, re, lo), none)
      | k :: T' =>
        if 0 < pi k then ((N, T' ++ [k], A, B, to, pi, fe, pl, go, hi, mi, re, lo + 1), none)
        else if 0 < to k then ((N, T' ++ [k], A, B, va_up to k 0, pi, fe, pl, go, hi, mi, re, lo + 1), none)
        else ((N, T', A, tr pl (B ++ [k]), to, pi, fe, pl, go, hi, mi, re, lo + 1), some k)
/-- sweeping, of at most so many looks -/
def swN : Nat → PS → Option (PS × Nat)
  | 0, _ => none
  | n + 1, s => match lk s with
    | (s', some k) => some (s', k)
    | (s', none) => swN n s'
def pnd : PS → Nat
  | (N, T, _, _, _, pi, _) => pc pi N + pc pi T
def jrs : PS → Nat
  | (N, T, _) => N.length + T.length
/-- swept till one leaves -/
def sw (s : PS) : PS × Nat := (swN 200 s).getD (s, 0)
/-- what fetching would tell: 0 hit, 1 not remembered, 2 by new, 3 by tried, 4 it cannot be fetched -/
def oc : PS → Nat → Nat
  | (N, T, A, B, _, pi, _, pl, _), k => if k ∈ N ∨ k ∈ T then 0 else if pl ≤ N.length + T.length ∧ N.length + T.length ≤ pc pi N + pc pi T then 4 else if k ∈ A then 2 else if k ∈ B then 3 else 1
def ocI (n : Nat) : Int32 := if n = 4 then -9 else nI n
/-- by how much the goal turns -/
def tn (other own : List Nat) : Nat := max 1 (other.length / own.length)
def rcl : PS → Nat → Nat → PS
  | (N, T, A, B, to, pi, fe, pl, go, hi, mi, re, lo), k, o =>
    if o = 2 then (N, T, A.eraseIdx (A.idxOf k), B, to, pi, fe, pl, min pl (go + tn B A), hi, mi, re + 1, lo)
    else if o = 3 then (N, T, A, B.eraseIdx (B.idxOf k), to, pi, fe, pl, go - tn A B, hi, mi, re + 1, lo)
    else (N, T, A, B, to, pi, fe, pl, go, hi, mi, re, lo)
/-- a new jar -/
def plc : PS → Nat → Nat → PS
  | (N, T, A, B, to, pi, fe, pl, go, hi, mi, re, lo), k, o =>
    if o = 1 then (N ++ [k], T, A, B, va_up to k 0, va_up pi k 0, va_up fe k 1, pl, go, hi, mi, re, lo)
    else (N, T ++ [k], A, B, va_up to k 0, va_up pi k 0, va_up fe k 1, pl, go, hi, mi, re, lo)
def hitS : PS → Nat → PS
  | (N, T, A, B, to, pi, fe, pl, go, hi, mi, re, lo), k => (N, T, A, B, va_up to k 1, pi, va_up fe k (fe k + 1), pl, go, hi + 1, mi, re, lo)
def missS : PS → PS
  | (N, T, A, B, to, pi, fe, pl, go, hi, mi, re, lo) => (N, T, A, B, to, pi, fe, pl, go, hi, mi + 1, re, lo)
def plS : PS → Nat
  | (_, _, _, _, _, _, _, pl, _) => pl
def hiS : PS → Int32
  | (_, _, _, _, _, _, _, _, _, hi, _) => hi
/-- fetching a kind -/
def br (s : PS) (k : Nat) : PS :=
  let o := oc s k
  if o = 4 then s else if o = 0 then hitS s k else
    let s1 := rcl (missS s) k o
    plc (if plS s1 ≤ jrs s1 then (sw s1).1 else s1) k o
/-- fetching a series, from its i-th on -/
def srs (fr st : Nat) : Nat → Nat → PS → PS
  | 0, _, s => s
  | n + 1, i, s => srs fr st n (i + 1) (br s ((fr + i * st) % 40))
def swM (p : Nat) : Nat → PS → PS
  | 0, s => s
  | n + 1, s => if p < jrs s then swM p n (sw s).1 else s
def setPl (p : Nat) : PS → PS
  | (N, T, A, B, to, pi, fe, _, go, hi, mi, re, lo) => (N, T, A, B, to, pi, fe, p, go, hi, mi, re, lo)
def cutS (p : Nat) : PS → PS
  | (N, T, A, B, to, pi, fe, pl, go, hi, mi, re, lo) => (N, T, tr p A, tr p B, to, pi, fe, pl, min go p, hi, mi, re, lo)
/-- other places -/
def rsz (p : Nat) (s : PS) : PS := cutS p (swM p 12 (setPl p s))
/-- the cells of a store: a 0 the object, a 1 .. a 8 rows and their numbers, a 9 .. a 14 tables and their numbers -/
def wSt (D : va_G) (a : Nat → Nat) : PS → PG → va_W
  | (N, T, A, B, _, _, _, pl, go, hi, mi, re, lo), (g0, g1, g2, g3, g4, g5, g6) =>
    [(a 0, .inr (1, [.ref (a 1), .ref (a 3), .ref (a 5), .ref (a 7), .ref (a 9), .ref (a 11), .ref (a 13), .int (nI pl), .int (nI go), .int hi, .int mi, .int re, .int lo])),
     (a 1, .inr (0, [.ref (a 2), .int (nI N.length)])), (a 2, .inl (D.1 20, 40, .inl g0)), (a 3, .inr (0, [.ref (a 4), .int (nI T.length)])), (a 4, .inl (D.1 20, 40, .inl g1)),
     (a 5, .inr (0, [.ref (a 6), .int (nI A.length)])), (a 6, .inl (D.1 20, 40, .inl g2)), (a 7, .inr (0, [.ref (a 8), .int (nI B.length)])), (a 8, .inl (D.1 20, 40, .inl g3)),
     (a 9, .inr (2, [.ref (a 10)])), (a 10, .inl (D.1 20, 40, .inl g4)), (a 11, .inr (2, [.ref (a 12)])), (a 12, .inl (D.1 20, 40, .inl g5)), (a 13, .inr (2, [.ref (a 14)])), (a 14, .inl (D.1 20, 40, .inl g6))]
theorem nmax {a b : Nat} (ha : a < 2147483648) (hb : b < 2147483648) : (if nI a < nI b then nI b else nI a) = nI (max a b) := by
  by_cases h : a < b
  · rw [if_pos ((nI_ltI ha hb).mpr h), Nat.max_eq_right (Nat.le_of_lt h)]
  · rw [if_neg (fun z => h ((nI_ltI ha hb).mp z)), Nat.max_eq_left (by omega)]
theorem nmin {a b : Nat} (ha : a < 2147483648) (hb : b < 2147483648) : (if nI b < nI a then nI b else nI a) = nI (min a b) := by
  by_cases h : b < a
  · rw [if_pos ((nI_ltI hb ha).mpr h), Nat.min_eq_right (Nat.le_of_lt h)]
  · rw [if_neg (fun z => h ((nI_ltI hb ha).mp z)), Nat.min_eq_left (by omega)]
theorem ocI_n {n : Nat} (h : n ≠ 4) : ocI n = nI n := if_neg h
theorem ocI_4 : ocI 4 = -9 := if_pos rfl
theorem yn_oa {p q : Prop} [Decidable p] [Decidable q] (h : ¬ yn p = 0) : yn (p ∨ q) = 1 := yn_t (Or.inl (Classical.byContradiction (fun z => h (yn_f z))))
theorem yn_ob {p q : Prop} [Decidable p] [Decidable q] (h : ¬ yn q = 0) : yn (p ∨ q) = 1 := yn_t (Or.inr (Classical.byContradiction (fun z => h (yn_f z))))
theorem tn_le {x y : List Nat} (h : x.length ≤ 12) : tn x y ≤ 12 := by
  unfold tn
  have := Nat.div_le_self x.length y.length
  omega
theorem tn_ge {x y : List Nat} : 1 ≤ tn x y := Nat.le_max_left _ _
theorem nsubmax {a b : Nat} (ha : a < 1073741824) (hb : b < 1073741824) : (if nI 0 < nI a - nI b then nI a - nI b else nI 0) = nI (a - b) := by
  by_cases h : b ≤ a
  · rw [pk_sub h]
    by_cases h2 : 0 < a - b
    · rw [if_pos ((nI_ltI (by decide) (by omega)).mpr h2)]
    · rw [if_neg (fun z => h2 ((nI_ltI (by decide) (by omega)).mp z)), show a - b = 0 by omega]
  · have h1 : nI a - nI b < 0 := pk_sneg hb (by omega)
    rw [if_neg (fun z => by rw [nI_0] at z; exact Int32.lt_irrefl (Int32.lt_trans z h1)), show a - b = 0 by omega]
theorem tup {g : Nat → Int32} {t : Nat → Nat} (h : ∀ k : Nat, k < 40 → g k = nI (t k)) (k x : Nat) : ∀ j : Nat, j < 40 → upd g k (nI x) j = nI (va_up t k x j) := by
  intro j hj
  by_cases e : j = k
  · subst e
    rw [upd_s]
    simp [va_up]
  · rw [upd_n e, h j hj]
    simp [va_up, e]
theorem tupI {g : Nat → Int32} {t : Nat → Int32} (h : ∀ k : Nat, k < 40 → g k = t k) (k : Nat) (x : Int32) : ∀ j : Nat, j < 40 → upd g k x j = va_up t k x j := by
  intro j hj
  by_cases e : j = k
  · subst e
    rw [upd_s]
    simp [va_up]
  · rw [upd_n e, h j hj]
    simp [va_up, e]
/-- without a kind, where it is there -/
def ea (L : List Nat) (k : Nat) : List Nat := if k ∈ L then L.eraseIdx (L.idxOf k) else L
theorem gv_01 (N T : List Nat) (pi : Nat → Nat) (go : Nat) : gv N T pi go = 0 ∨ gv N T pi go = 1 := by unfold gv; split <;> simp
theorem gv_0 {N T : List Nat} {pi : Nat → Nat} {go : Nat} (h : gv N T pi go = 0) : ∃ (k : Nat) (N' : List Nat), N = k :: N' := by
  cases N with
  | nil =>
    unfold gv at h
    rw [if_neg (fun z => absurd z.1 (Nat.not_lt_zero _))] at h
    cases h
  | cons k N' => exact ⟨k, N', rfl⟩
theorem gv_1 {N T : List Nat} {pi : Nat → Nat} {go : Nat} (h : gv N T pi go = 1) (hp : pc pi N + pc pi T < N.length + T.length) : ∃ (k : Nat) (T' : List Nat), T = k :: T' := by
  cases T with
  | nil =>
    unfold gv at h
    rw [if_pos ⟨by simpa [pc] using hp, Or.inr (Nat.zero_le _)⟩] at h
    cases h
  | cons k T' => exact ⟨k, T', rfl⟩
theorem swN_pos {n : Nat} {s : PS} {r : PS × Nat} (h : swN n s = some r) : ∃ m : Nat, n = m + 1 := by
  cases n with
  | zero => cases h
  | succ m => exact ⟨m, rfl⟩
theorem swN_n {n : Nat} {s s1 : PS} {r : PS × Nat} (h : swN (n + 1) s = some r) (e : lk s = (s1, none)) : swN n s1 = some r := by
  simp only [swN, e] at h
  exact h
theorem swN_e {n : Nat} {s s1 s' : PS} {k k' : Nat} (h : swN (n + 1) s = some (s', k')) (e : lk s = (s1, some k)) : s1 = s' ∧ k = k' := by
  simp only [swN, e] at h
  cases h
  exact ⟨rfl, rfl⟩
section LKs
variable {k : Nat} {N T A B N' T' : List Nat} {to pi : Nat → Nat} {fe : Nat → Int32} {pl go : Nat} {hi mi re lo : Int32}
theorem lk_0p (hg : gv (k :: N') T pi go = 0) (hp : 0 < pi k) : lk (k :: N', T, A, B, to, pi, fe, pl, go, hi, mi, re, lo) = ((N' ++ [k], T, A, B, to, pi, fe, pl, go, hi, mi, re, lo + 1), none) := by
  show (if _ then _ else _) = _
  rw [if_pos hg]
  show (if _ then _ else _) = _
  rw [if_pos hp]
theorem lk_0t (hg : gv (k :: N') T pi go = 0) (hp : pi k = 0) (ht : 0 < to k) : lk (k :: N', T, A, B, to, pi, fe, pl, go, hi, mi, re, lo) = ((N', T ++ [k], A, B, va_up to k 0, pi, fe, pl, go, hi, mi, re, lo + 1), none) := by
  show (if _ then _ else _) = _
  rw [if_pos hg]
  show (if _ then _ else _) = _
  rw [if_neg (by omega)]
  show (if _ then _ else _) = _
  rw [if_pos ht]
theorem lk_0l (hg : gv (k :: N') T pi go = 0) (hp : pi k = 0) (ht : to k = 0) : lk (k :: N', T, A, B, to, pi, fe, pl, go, hi, mi, re, lo) = ((N', T, tr pl (A ++ [k]), B, to, pi, fe, pl, go, hi, mi, re, lo + 1), some k) := by
  show (if _ then _ else _) = _
  rw [if_pos hg]
  show (if _ then _ else _) = _
  rw [if_neg (by omega)]
  show (if _ then _ else _) = _
  rw [if_neg (by omega)]
theorem lk_1p (hg : gv N (k :: T') pi go = 1) (hp : 0 < pi k) : lk (N, k :: T', A, B, to, pi, fe, pl, go, hi, mi, re, lo) = ((N, T' ++ [k], A, B, to, pi, fe, pl, go, hi, mi, re, lo + 1), none) := by
  show (if _ then _ else _) = _
  rw [if_neg (by omega)]
  show (if _ then _ else _) = _
  rw [if_pos hp]
theorem lk_1t (hg : gv N (k :: T') pi go = 1) (hp : pi k = 0) (ht : 0 < to k) : lk (N, k :: T', A, B, to, pi, fe, pl, go, hi, mi, re, lo) = ((N, T' ++ [k], A, B, va_up to k 0, pi, fe, pl, go, hi, mi, re, lo + 1), none) := by
  show (if _ then _ else _) = _
  rw [if_neg (by omega)]
  show (if _ then _ else _) = _
  rw [if_neg (by omega)]
  show (if _ then _ else _) = _
  rw [if_pos ht]
theorem lk_1l (hg : gv N (k :: T') pi go = 1) (hp : pi k = 0) (ht : to k = 0) : lk (N, k :: T', A, B, to, pi, fe, pl, go, hi, mi, re, lo) = ((N, T', A, tr pl (B ++ [k]), to, pi, fe, pl, go, hi, mi, re, lo + 1), some k) := by
  show (if _ then _ else _) = _
  rw [if_neg (by omega)]
  show (if _ then _ else _) = _
  rw [if_neg (by omega)]
  show (if _ then _ else _) = _
  rw [if_neg (by omega)]
/-- the six ways of a look, where some jar is not pinned -/
theorem lk_six (hpj : pc pi N + pc pi T < N.length + T.length) : (∃ (k : Nat) (N' : List Nat), N = k :: N' ∧ gv N T pi go = 0 ∧ (0 < pi k ∨ (pi k = 0 ∧ 0 < to k) ∨ (pi k = 0 ∧ to k = 0))) ∨ (∃ (k : Nat) (T' : List Nat), T = k :: T' ∧ gv N T pi go = 1 ∧ (0 < pi k ∨ (pi k = 0 ∧ 0 < to k) ∨ (pi k = 0 ∧ to k = 0))) := by
  have c3 : ∀ k : Nat, 0 < pi k ∨ (pi k = 0 ∧ 0 < to k) ∨ (pi k = 0 ∧ to k = 0) := fun k => by omega
  rcases gv_01 N T pi go with h | h
  · obtain ⟨k, N', e⟩ := gv_0 h
    exact Or.inl ⟨k, N', e, h, c3 k⟩
  · obtain ⟨k, T', e⟩ := gv_1 h hpj
    exact Or.inr ⟨k, T', e, h, c3 k⟩
end LKs
theorem tr_len (m : Nat) (L : List Nat) : (tr m L).length = min m L.length := by
  unfold tr
  rw [List.length_drop]
  omega
theorem KL.tr {L : List Nat} (h : KL L) (m : Nat) : KL (tr m L) := h.drop _
theorem pc_cons (pi : Nat → Nat) (k : Nat) (L : List Nat) : pc pi (k :: L) = pc pi L + (if 0 < pi k then 1 else 0) := by
  unfold pc
  rw [List.countP_cons]
  by_cases e : 0 < pi k <;> simp [e]
theorem pc_snoc (pi : Nat → Nat) (k : Nat) (L : List Nat) : pc pi (L ++ [k]) = pc pi L + (if 0 < pi k then 1 else 0) := by
  unfold pc
  rw [List.countP_append, List.countP_singleton]
  by_cases e : 0 < pi k <;> simp [e]
theorem up_le {t : Nat → Nat} {m : Nat} (h : ∀ k : Nat, t k ≤ m) (k x : Nat) (hx : x ≤ m) : ∀ j : Nat, va_up t k x j ≤ m := by
  intro j
  unfold va_up
  split
  · exact hx
  · exact h j
/-- a look keeps what a pantry is -/
theorem lk_wf {s : PS} (h : WF s) (hpj : pnd s < jrs s) : WF (lk s).1 := by
  obtain ⟨N, T, A, B, to, pi, fe, pl, go, hi, mi, re, lo⟩ := s
  obtain ⟨kN, kT, kA, kB, nd, len, lA, lB, p2, p12, g12, t1, p9⟩ := h
  rcases lk_six (N := N) (T := T) (pi := pi) (to := to) (go := go) hpj with ⟨k, N', rfl, hg, h | h | h⟩ | ⟨k, T', rfl, hg, h | h | h⟩
  · rw [lk_0p hg h]
    refine ⟨KL.push (fun x hx => kN x (List.mem_cons_of_mem _ hx)) (kN k List.mem_cons_self), kT, kA, kB, ?_, ?_, lA, lB, p2, p12, g12, t1, p9⟩
    · refine (List.Perm.nodup_iff ?_).mp nd
      exact (List.perm_append_singleton k N').symm.append_right T
    · simp only [List.length_append, List.length_cons, List.length_nil] at len ⊢; omega
  · rw [lk_0t hg h.1 h.2]
    refine ⟨fun x hx => kN x (List.mem_cons_of_mem _ hx), kT.push (kN k List.mem_cons_self), kA, kB, ?_, ?_, lA, lB, p2, p12, g12, up_le t1 k 0 (by omega), p9⟩
    · refine (List.Perm.nodup_iff ?_).mp nd
      rw [← List.append_assoc]
      exact (List.perm_append_singleton k (N' ++ T)).symm
    · simp only [List.length_append, List.length_cons, List.length_nil] at len ⊢; omega
  · rw [lk_0l hg h.1 h.2]
    refine ⟨fun x hx => kN x (List.mem_cons_of_mem _ hx), kT, (kA.push (kN k List.mem_cons_self)).tr pl, kB, (List.nodup_cons.mp nd).2, ?_, ?_, lB, p2, p12, g12, t1, p9⟩
    · simp only [List.length_cons] at len; omega
    · rw [tr_len]; omega
  · rw [lk_1p hg h]
    refine ⟨kN, KL.push (fun x hx => kT x (List.mem_cons_of_mem _ hx)) (kT k List.mem_cons_self), kA, kB, ?_, ?_, lA, lB, p2, p12, g12, t1, p9⟩
    · refine (List.Perm.nodup_iff ?_).mp nd
      exact (List.perm_append_singleton k T').symm.append_left N
    · simp only [List.length_append, List.length_cons, List.length_nil] at len ⊢; omega
  · rw [lk_1t hg h.1 h.2]
    refine ⟨kN, KL.push (fun x hx => kT x (List.mem_cons_of_mem _ hx)) (kT k List.mem_cons_self), kA, kB, ?_, ?_, lA, lB, p2, p12, g12, up_le t1 k 0 (by omega), p9⟩
    · refine (List.Perm.nodup_iff ?_).mp nd
      exact (List.perm_append_singleton k T').symm.append_left N
    · simp only [List.length_append, List.length_cons, List.length_nil] at len ⊢; omega
  · rw [lk_1l hg h.1 h.2]
    refine ⟨kN, fun x hx => kT x (List.mem_cons_of_mem _ hx), kA, (kB.push (kT k List.mem_cons_self)).tr pl, ?_, ?_, lA, ?_, p2, p12, g12, t1, p9⟩
    · exact nd.sublist (List.Sublist.append (List.Sublist.refl N) (List.sublist_cons_self k T'))
    · simp only [List.length_cons] at len; omega
    · rw [tr_len]; omega
/-- .. and how many are pinned, and how many there are -/
theorem lk_pj {s : PS} (hpj : pnd s < jrs s) : pnd (lk s).1 = pnd s ∧ jrs (lk s).1 + (if (lk s).2 = none then 0 else 1) = jrs s ∧ plS (lk s).1 = plS s := by
  obtain ⟨N, T, A, B, to, pi, fe, pl, go, hi, mi, re, lo⟩ := s
  rcases lk_six (N := N) (T := T) (pi := pi) (to := to) (go := go) hpj with ⟨k, N', rfl, hg, h | h | h⟩ | ⟨k, T', rfl, hg, h | h | h⟩
  · rw [lk_0p hg h]
    simp [pnd, jrs, plS, pc_cons, pc_snoc]
  · rw [lk_0t hg h.1 h.2]
    simp [pnd, jrs, plS, pc_cons, pc_snoc, h.1]
    omega
  · rw [lk_0l hg h.1 h.2]
    simp [pnd, jrs, plS, pc_cons, pc_snoc, h.1]
    omega
  · rw [lk_1p hg h]
    simp [pnd, jrs, plS, pc_cons, pc_snoc]
  · rw [lk_1t hg h.1 h.2]
    simp [pnd, jrs, plS, pc_cons, pc_snoc, h.1]
  · rw [lk_1l hg h.1 h.2]
    simp [pnd, jrs, plS, pc_cons, pc_snoc, h.1]
    omega
theorem wf_tl0 {k : Nat} {N T A B : List Nat} {to pi : Nat → Nat} {fe : Nat → Int32} {pl go : Nat} {hi mi re lo lo' : Int32} (h : WF (k :: N, T, A, B, to, pi, fe, pl, go, hi, mi, re, lo)) : WF (N, T, A, B, to, pi, fe, pl, go, hi, mi, re, lo') := by
  obtain ⟨kN, kT, kA, kB, nd, len, h⟩ := h
  exact ⟨fun x hx => kN x (List.mem_cons_of_mem _ hx), kT, kA, kB, (List.nodup_cons.mp nd).2, by simp only [List.length_cons] at len; omega, h⟩
theorem wf_tl1 {k : Nat} {N T A B : List Nat} {to pi : Nat → Nat} {fe : Nat → Int32} {pl go : Nat} {hi mi re lo lo' : Int32} (h : WF (N, k :: T, A, B, to, pi, fe, pl, go, hi, mi, re, lo)) : WF (N, T, A, B, to, pi, fe, pl, go, hi, mi, re, lo') := by
  obtain ⟨kN, kT, kA, kB, nd, len, h⟩ := h
  exact ⟨kN, fun x hx => kT x (List.mem_cons_of_mem _ hx), kA, kB, nd.sublist (List.Sublist.append (List.Sublist.refl N) (List.sublist_cons_self k T)), by simp only [List.length_cons] at len; omega, h⟩
