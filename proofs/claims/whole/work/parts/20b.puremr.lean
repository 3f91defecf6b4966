/-! ROWS OF THE MODEL: pieces of rows of numbers, and what is told of each kind -/
theorem RowL_put {L : List Nat} {f : Nat → Int32} {b : Nat} (h : RowL L (fun i => f (b + i))) (k : Nat) : RowL (L ++ [k]) (fun i => upd f (b + L.length) (nI k) (b + i)) := by
  intro i hi
  rw [List.length_append, List.length_singleton] at hi
  show upd f (b + L.length) (nI k) (b + i) = _
  by_cases e : i = L.length
  · subst e
    rw [upd_s]
    simp
  · rw [upd_n (by omega)]
    have h2 := h i (by omega)
    rw [show f (b + i) = nI (L.getD i 0) from h2]
    simp [List.getD_eq_getElem?_getD, List.getElem?_append_left (show i < L.length by omega)]
theorem RowL_keep {L : List Nat} {f g : Nat → Int32} {b : Nat} (h : RowL L (fun i => f (b + i))) (e : ∀ i : Nat, i < L.length → g (b + i) = f (b + i)) : RowL L (fun i => g (b + i)) := fun i hi => (e i hi).trans (h i hi)
theorem cpy_out {α : Type} {f g : Nat → α} {sp dp n j : Nat} (h : j < dp ∨ dp + n ≤ j) : va_cpy f g sp dp n j = g j := if_neg (by omega)
theorem cpy_in {α : Type} {f g : Nat → α} {sp dp n j : Nat} (h : dp ≤ j ∧ j < dp + n) : va_cpy f g sp dp n j = f (sp + (j - dp)) := if_pos h
theorem RowL_cut {L : List Nat} {f : Nat → Int32} {b p : Nat} (h : RowL L (fun i => f (b + i))) (hp : p < L.length) : RowL (L.eraseIdx p) (fun i => va_cpy f f (b + p + 1) (b + p) (L.length - 1 - p) (b + i)) := by
  intro i hi
  rw [List.length_eraseIdx_of_lt hp] at hi
  show va_cpy f f (b + p + 1) (b + p) (L.length - 1 - p) (b + i) = _
  rw [List.getD_eq_getElem?_getD, List.getElem?_eraseIdx]
  by_cases h1 : i < p
  · rw [cpy_out (by omega), if_pos h1]
    have h2 := h i (by omega)
    rw [show f (b + i) = nI (L.getD i 0) from h2, List.getD_eq_getElem?_getD]
  · rw [cpy_in (by omega), if_neg h1]
    have h2 := h (i + 1) (by omega)
    rw [show b + p + 1 + (b + i - (b + p)) = b + (i + 1) by omega, show f (b + (i + 1)) = nI (L.getD (i + 1) 0) from h2, List.getD_eq_getElem?_getD]
/-- what is told of the kinds: shelf, touch, pins, fetches -/
def MRj (s : Nat → Int32) (to pi : Nat → Nat) (fe fj : Nat → Int32) : Prop := ∀ k : Nat, k < 40 → fj (4 * k) = s k ∧ fj (4 * k + 1) = nI (to k) ∧ fj (4 * k + 2) = nI (pi k) ∧ fj (4 * k + 3) = fe k
section MRJ
variable {s : Nat → Int32} {to pi : Nat → Nat} {fe fj : Nat → Int32}
theorem MRj.sh (h : MRj s to pi fe fj) (k : Nat) (x : Int32) : MRj (fun y => if y = k then x else s y) to pi fe (upd fj (4 * k) x) := by
  intro y hy
  obtain ⟨h0, h1, h2, h3⟩ := h y hy
  refine ⟨?_, by rw [upd_n (by omega)]; exact h1, by rw [upd_n (by omega)]; exact h2, by rw [upd_n (by omega)]; exact h3⟩
  by_cases e : y = k
  · subst e; rw [upd_s]; exact (if_pos rfl).symm
  · rw [upd_n (by omega)]; exact h0.trans (if_neg e).symm
theorem MRj.uto (h : MRj s to pi fe fj) (k x : Nat) : MRj s (va_up to k x) pi fe (upd fj (4 * k + 1) (nI x)) := by
  intro y hy
  obtain ⟨h0, h1, h2, h3⟩ := h y hy
  refine ⟨by rw [upd_n (by omega)]; exact h0, ?_, by rw [upd_n (by omega)]; exact h2, by rw [upd_n (by omega)]; exact h3⟩
  by_cases e : y = k
  · subst e; rw [upd_s, va_up, if_pos rfl]
  · rw [upd_n (by omega), va_up, if_neg e]; exact h1
theorem MRj.upi (h : MRj s to pi fe fj) (k x : Nat) : MRj s to (va_up pi k x) fe (upd fj (4 * k + 2) (nI x)) := by
  intro y hy
  obtain ⟨h0, h1, h2, h3⟩ := h y hy
  refine ⟨by rw [upd_n (by omega)]; exact h0, by rw [upd_n (by omega)]; exact h1, ?_, by rw [upd_n (by omega)]; exact h3⟩
  by_cases e : y = k
  · subst e; rw [upd_s, va_up, if_pos rfl]
  · rw [upd_n (by omega), va_up, if_neg e]; exact h2
theorem MRj.ufe (h : MRj s to pi fe fj) (k : Nat) (x : Int32) : MRj s to pi (va_up fe k x) (upd fj (4 * k + 3) x) := by
  intro y hy
  obtain ⟨h0, h1, h2, h3⟩ := h y hy
  refine ⟨by rw [upd_n (by omega)]; exact h0, by rw [upd_n (by omega)]; exact h1, by rw [upd_n (by omega)]; exact h2, ?_⟩
  by_cases e : y = k
  · subst e; rw [upd_s, va_up, if_pos rfl]
  · rw [upd_n (by omega), va_up, if_neg e]; exact h3
theorem MRj.new (h : MRj s to pi fe fj) (k : Nat) {g : Nat → Int32} (g0 : g 0 = -1) (g1 : g 1 = nI 0) (g2 : g 2 = nI 0) (g3 : g 3 = nI 1) : MRj (fun y => if y = k then -1 else s y) (va_up to k 0) (va_up pi k 0) (va_up fe k 1) (va_cpy g fj 0 (4 * k) 4) := by
  intro y hy
  obtain ⟨h0, h1, h2, h3⟩ := h y hy
  by_cases e : y = k
  · subst e
    rw [cpy_in (by omega), cpy_in (by omega), cpy_in (by omega), cpy_in (by omega)]
    rw [show 0 + (4 * y - 4 * y) = 0 by omega, show 0 + (4 * y + 1 - 4 * y) = 1 by omega, show 0 + (4 * y + 2 - 4 * y) = 2 by omega, show 0 + (4 * y + 3 - 4 * y) = 3 by omega, g0, g1, g2, g3]
    simp only [va_up, if_pos]
    exact ⟨trivial, trivial, trivial, rfl⟩
  · rw [cpy_out (by omega), cpy_out (by omega), cpy_out (by omega), cpy_out (by omega)]
    simp only [va_up, if_neg e]
    exact ⟨h0, h1, h2, h3⟩
theorem MRj.as {s' : Nat → Int32} (h : MRj s to pi fe fj) (e : ∀ y, s y = s' y) : MRj s' to pi fe fj := fun y hy => by rw [← e y]; exact h y hy
end MRJ
theorem sf_0 {N T : List Nat} {k : Nat} (h : k ∈ N) : sfI N T k = nI 0 := by rw [sfI, if_pos h]; rfl
theorem sf_1 {N T : List Nat} {k : Nat} (h0 : k ∉ N) (h : k ∈ T) : sfI N T k = nI 1 := by rw [sfI, if_neg h0, if_pos h]
theorem sf_m {N T : List Nat} {k : Nat} (h0 : k ∉ N) (h : k ∉ T) : sfI N T k = -1 := by rw [sfI, if_neg h0, if_neg h]
theorem sf_e {N T N' T' : List Nat} {y : Nat} (h0 : y ∈ N ↔ y ∈ N') (h1 : y ∈ T ↔ y ∈ T') : sfI N T y = sfI N' T' y := by
  unfold sfI
  by_cases a : y ∈ N
  · rw [if_pos a, if_pos (h0.mp a)]
  · rw [if_neg a, if_neg (fun z => a (h0.mpr z))]
    by_cases b : y ∈ T
    · rw [if_pos b, if_pos (h1.mp b)]
    · rw [if_neg b, if_neg (fun z => b (h1.mpr z))]
/-- put on a shelf, a kind that was on none or on another -/
theorem sf_put {N T N' T' : List Nat} {k : Nat} {x : Int32} (hk : sfI N' T' k = x) (h0 : ∀ y, y ≠ k → (y ∈ N ↔ y ∈ N')) (h1 : ∀ y, y ≠ k → (y ∈ T ↔ y ∈ T')) (y : Nat) : (if y = k then x else sfI N T y) = sfI N' T' y := by
  by_cases e : y = k
  · subst e; rw [if_pos rfl, hk]
  · rw [if_neg e]; exact sf_e (h0 y e) (h1 y e)
/-- kinds with a jar and with pins -/
def pcK (N T : List Nat) (pi : Nat → Nat) (i : Nat) : Nat := (List.range i).countP (fun k => decide ((k ∈ N ∨ k ∈ T) ∧ 0 < pi k))
theorem pcK_s (N T : List Nat) (pi : Nat → Nat) (i : Nat) : pcK N T pi (i + 1) = pcK N T pi i + (if (i ∈ N ∨ i ∈ T) ∧ 0 < pi i then 1 else 0) := by
  unfold pcK
  rw [List.range_succ, List.countP_append, List.countP_singleton]
  by_cases e : (i ∈ N ∨ i ∈ T) ∧ 0 < pi i <;> simp only [e, decide_true, decide_false, if_true, if_false] <;> rfl
theorem cnt_or {q : Nat → Bool} {a : Nat} (hq : q a = false) : ∀ n : Nat, (List.range n).countP (fun k => decide (k = a) || q k) = (List.range n).countP q + (if a < n then 1 else 0)
  | 0 => rfl
  | n + 1 => by
    rw [List.range_succ, List.countP_append, List.countP_append, cnt_or hq n, List.countP_singleton, List.countP_singleton]
    by_cases e : n = a
    · subst e
      simp [hq]
    · by_cases h : a < n
      · simp [e, h, Nat.lt_succ_of_lt h]
        omega
      · simp [e, h, show ¬ a < n + 1 by omega]
theorem pcK_L (pi : Nat → Nat) : ∀ L : List Nat, L.Nodup → KL L → (List.range 40).countP (fun k => decide (k ∈ L ∧ 0 < pi k)) = pc pi L
  | [], _, _ => by simp [pc]
  | a :: L, hn, hK => by
    have hn2 := List.nodup_cons.mp hn
    have ih := pcK_L pi L hn2.2 (fun x hx => hK x (List.mem_cons_of_mem _ hx))
    have ha : a < 40 := hK a List.mem_cons_self
    by_cases hp : 0 < pi a
    · have e : (fun k => decide (k ∈ a :: L ∧ 0 < pi k)) = (fun k => decide (k = a) || decide (k ∈ L ∧ 0 < pi k)) := by
        funext k
        by_cases hk : k = a
        · subst hk; simp [hp]
        · simp [hk]
      rw [e, cnt_or (by simp [hn2.1]) 40, if_pos ha, ih]
      simp [pc, List.countP_cons, hp]
    · have e : (fun k => decide (k ∈ a :: L ∧ 0 < pi k)) = (fun k => decide (k ∈ L ∧ 0 < pi k)) := by
        funext k
        by_cases hk : k = a
        · subst hk; simp [hp]
        · simp [hk]
      rw [e, ih]
      simp [pc, List.countP_cons, hp]
theorem pcK_40 {N T : List Nat} (pi : Nat → Nat) (hn : (N ++ T).Nodup) (hN : KL N) (hT : KL T) : pcK N T pi 40 = pc pi N + pc pi T := by
  have h := pcK_L pi (N ++ T) hn (fun x hx => (List.mem_append.mp hx).elim (hN x) (hT x))
  have e : pc pi (N ++ T) = pc pi N + pc pi T := List.countP_append ..
  rw [e] at h
  rw [← h]
  unfold pcK
  congr 1
  funext k
  simp [List.mem_append]
theorem pcK_le (N T : List Nat) (pi : Nat → Nat) (i : Nat) : pcK N T pi i ≤ i := by
  have h := List.countP_le_length (p := fun k => decide ((k ∈ N ∨ k ∈ T) ∧ 0 < pi k)) (l := List.range i)
  rw [List.length_range] at h
  exact h
/-- a jar without a pin -/
theorem pc_lt {pi : Nat → Nat} {L : List Nat} {i : Nat} (hi : i < L.length) (h0 : pi (L.getD i 0) = 0) : pc pi L < L.length := by
  rcases Nat.lt_or_ge (pc pi L) L.length with h | h
  · exact h
  · have e : L.countP (fun k => decide (0 < pi k)) = L.length := Nat.le_antisymm List.countP_le_length h
    have h2 := List.countP_eq_length.mp e (L.getD i 0) (by rw [List.getD_eq_getElem?_getD, List.getElem?_eq_getElem hi]; exact List.getElem_mem hi)
    rw [h0] at h2
    exact absurd h2 (by decide)
/-- all pinned -/
theorem pc_full {pi : Nat → Nat} {L : List Nat} (h : ∀ j : Nat, j < L.length → 0 < pi (L.getD j 0)) : pc pi L = L.length := List.countP_eq_length.mpr (fun x hx => by
  obtain ⟨j, hj, e⟩ := List.getElem_of_mem hx
  have h2 := h j hj
  rw [List.getD_eq_getElem?_getD, List.getElem?_eq_getElem hj, Option.getD_some, e] at h2
  exact decide_eq_true h2)
theorem Ck_in {p : Int32} : (¬ p < nI 0 ∧ p ≤ nI 39) ↔ Ck p := ⟨fun h => ⟨fun z => h.1 (by rw [nI_0]; exact z), Int32.lt_of_le_of_lt h.2 (by decide)⟩, fun h => ⟨fun z => h.1 (by rw [← nI_0]; exact z), lt_le (by decide) h.2⟩⟩
theorem tr_le {m : Nat} {L : List Nat} (h : L.length ≤ m) : tr m L = L := by rw [tr, Nat.sub_eq_zero_of_le h]; rfl
theorem tr_cut {m : Nat} : ∀ {L : List Nat}, m < L.length → tr m (L.eraseIdx 0) = tr m L
  | [], h => absurd h (Nat.not_lt_zero _)
  | a :: t, h => by
    show t.drop (t.length - m) = (a :: t).drop ((t.length + 1) - m)
    have h2 : m < t.length + 1 := h
    rw [show t.length + 1 - m = (t.length - m) + 1 by omega]
    rfl
abbrev MG : Type := (Nat → Int32) × (Nat → Int32) × (Nat → Int32) × (Nat → Int32)
/-- the model's rows tell the same -/
def MR : PS → MG → Prop
  | (N, T, A, B, to, pi, fe, pl, go, hi, mi, re, lo), (fj, fs, fl, fn) =>
    (RowL N (fun i => fs (12 * 0 + i)) ∧ RowL T (fun i => fs (12 * 1 + i)) ∧ RowL A (fun i => fl (13 * 0 + i)) ∧ RowL B (fun i => fl (13 * 1 + i))) ∧ MRj (sfI N T) to pi fe fj ∧
    (fn 0 = nI pl ∧ fn 1 = nI go ∧ fn 2 = hi ∧ fn 3 = mi ∧ fn 4 = re ∧ fn 5 = lo) ∧ fn 6 = nI N.length ∧ fn 7 = nI T.length ∧ fn 8 = nI A.length ∧ fn 9 = nI B.length
/-- the model's cells -/
def wMo (D : va_G) (o : Nat → Nat) (th : Int32) : MG → va_W
  | (fj, fs, fl, fn) => [(o 0, .inr (4, [.int th, .ref (o 1), .ref (o 2), .ref (o 3), .ref (o 4)])), (o 1, .inl (D.1 5, 160, .inl fj)), (o 2, .inl (D.1 5, 24, .inl fs)), (o 3, .inl (D.1 5, 26, .inl fl)), (o 4, .inl (D.1 5, 10, .inl fn))]
