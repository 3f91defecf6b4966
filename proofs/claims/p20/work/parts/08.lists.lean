/-! LISTS OF KINDS AND WHAT ROWS OF NUMBERS HOLD OF THEM -/
def RowL (L : List Nat) (f : Nat → Int32) : Prop := ∀ i : Nat, i < L.length → f i = nI (L.getD i 0)
def KL (L : List Nat) : Prop := ∀ k ∈ L, k < 40
theorem KL.g {L : List Nat} (h : KL L) (i : Nat) : L.getD i 0 < 40 := by
  by_cases hi : i < L.length
  · rw [List.getD_eq_getElem?_getD, List.getElem?_eq_getElem hi]
    exact h _ (List.getElem_mem hi)
  · rw [List.getD_eq_getElem?_getD, List.getElem?_eq_none (by omega)]
    decide
theorem RowL.nil {f : Nat → Int32} : RowL [] f := fun i h => absurd h (Nat.not_lt_zero i)
theorem RowL.of {L : List Nat} {f g : Nat → Int32} (h : RowL L f) (e : ∀ i : Nat, i < L.length → g i = f i) : RowL L g := fun i hi => (e i hi).trans (h i hi)
theorem ix_found : ∀ {L : List Nat} {i k : Nat}, i < L.length → L.getD i 0 = k → (∀ j : Nat, j < i → ¬ L.getD j 0 = k) → k ∈ L ∧ L.idxOf k = i
  | [], i, k, hi, _, _ => absurd hi (Nat.not_lt_zero i)
  | a :: t, 0, k, _, h, _ => by
    have e : a = k := by simpa using h
    subst e
    exact ⟨List.mem_cons_self, List.idxOf_cons_self⟩
  | a :: t, i + 1, k, hi, h, hb => by
    have ha : ¬ a = k := by simpa using hb 0 (Nat.succ_pos i)
    obtain ⟨h1, h2⟩ := ix_found (L := t) (i := i) (k := k) (by simpa using hi) (by simpa using h) (fun j hj => by simpa using hb (j + 1) (Nat.succ_lt_succ hj))
    refine ⟨List.mem_cons_of_mem _ h1, ?_⟩
    rw [List.idxOf_cons, h2, show (a == k) = false from beq_false_of_ne ha]
    rfl
theorem ix_none {L : List Nat} {k : Nat} (hb : ∀ j : Nat, j < L.length → ¬ L.getD j 0 = k) : k ∉ L := by
  intro h
  obtain ⟨j, hj, e⟩ := List.getElem_of_mem h
  refine hb j hj ?_
  rw [List.getD_eq_getElem?_getD, List.getElem?_eq_getElem hj]
  exact e
def ixv (L : List Nat) (k : Nat) : Int32 := if k ∈ L then nI (L.idxOf k) else -1
theorem ixv_in {L : List Nat} {k : Nat} (h : k ∈ L) : ixv L k = nI (L.idxOf k) := if_pos h
theorem ixv_out {L : List Nat} {k : Nat} (h : k ∉ L) : ixv L k = -1 := if_neg h
theorem nI_m1 {n : Nat} (h : n < 2147483648) : nI n ≠ -1 := fun e => by
  have := congrArg Int32.toInt e
  rw [nI_toInt h] at this
  have h2 : (-1 : Int32).toInt = -1 := by decide
  omega
theorem ixv_m1 {L : List Nat} {k : Nat} (hL : L.length ≤ 40) : ixv L k = -1 ↔ k ∉ L := by
  refine ⟨fun e h => ?_, ixv_out⟩
  rw [ixv_in h] at e
  have := List.idxOf_lt_length_of_mem h
  exact nI_m1 (by omega) e
/-- a yes or no as a number -/
def yn (p : Prop) [Decidable p] : Nat := if p then 1 else 0
theorem yn_t {p : Prop} [Decidable p] (h : p) : yn p = 1 := if_pos h
theorem yn_f {p : Prop} [Decidable p] (h : ¬ p) : yn p = 0 := if_neg h
theorem yn_le {p : Prop} [Decidable p] : yn p ≤ 1 := by unfold yn; split <;> omega
theorem yn_0 {p : Prop} [Decidable p] : yn p = 0 ↔ ¬ p := by unfold yn; split <;> simp [*]
theorem upd_s (f : Nat → Int32) (k : Nat) (x : Int32) : upd f k x k = x := pk_us
theorem upd_n {f : Nat → Int32} {k j : Nat} {x : Int32} (h : j ≠ k) : upd f k x j = f j := pk_un h
theorem RowL.push {L : List Nat} {f : Nat → Int32} (h : RowL L f) (k : Nat) : RowL (L ++ [k]) (upd f L.length (nI k)) := by
  intro i hi
  rw [List.length_append, List.length_singleton] at hi
  by_cases e : i = L.length
  · subst e
    rw [upd_s]
    simp
  · rw [upd_n e, h i (by omega)]
    simp [List.getD_eq_getElem?_getD, List.getElem?_append_left (show i < L.length by omega)]
theorem KL.push {L : List Nat} {k : Nat} (h : KL L) (hk : k < 40) : KL (L ++ [k]) := fun x hx => (List.mem_append.mp hx).elim (h x) (fun h2 => by rw [List.mem_singleton.mp h2]; exact hk)
/-- a row from whose place p one was taken, as far as i -/
def shf (f : Nat → Int32) (p i : Nat) : Nat → Int32 := fun j => if p ≤ j ∧ j + 1 < i then f (j + 1) else f j
theorem shf_0 (f : Nat → Int32) (p : Nat) : shf f p (p + 1) = f := by
  funext j
  unfold shf
  rw [if_neg (by omega)]
theorem shf_at (f : Nat → Int32) (p i : Nat) : shf f p i i = f i := by
  unfold shf
  rw [if_neg (by omega)]
theorem shf_step {f : Nat → Int32} {p i : Nat} (h : p < i) : upd (shf f p i) (i - 1) (f i) = shf f p (i + 1) := by
  funext j
  by_cases e : j = i - 1
  · subst e
    rw [upd_s]
    unfold shf
    rw [if_pos (by omega), show i - 1 + 1 = i by omega]
  · rw [upd_n e]
    unfold shf
    by_cases h1 : p ≤ j ∧ j + 1 < i
    · rw [if_pos h1, if_pos (by omega)]
    · rw [if_neg h1, if_neg (by omega)]
theorem RowL.cut {L : List Nat} {f : Nat → Int32} (h : RowL L f) {p : Nat} (hp : p < L.length) : RowL (L.eraseIdx p) (shf f p L.length) := by
  intro i hi
  rw [List.length_eraseIdx_of_lt hp] at hi
  rw [List.getD_eq_getElem?_getD, List.getElem?_eraseIdx]
  unfold shf
  by_cases h1 : i < p
  · rw [if_neg (by omega), h i (by omega), if_pos h1, List.getD_eq_getElem?_getD]
  · rw [if_pos (by omega), h (i + 1) (by omega), if_neg h1, List.getD_eq_getElem?_getD]
theorem KL.cut {L : List Nat} (h : KL L) (p : Nat) : KL (L.eraseIdx p) := fun x hx => h x (List.mem_of_mem_eraseIdx hx)
theorem KL.drop {L : List Nat} (h : KL L) (p : Nat) : KL (L.drop p) := fun x hx => h x (List.mem_of_mem_drop hx)
theorem drop_e0 (L : List Nat) (j : Nat) : (L.drop j).eraseIdx 0 = L.drop (j + 1) := by rw [List.eraseIdx_zero, List.tail_drop]
/-- digests of kinds -/
def dks (d : Int64) (L : List Nat) : Int64 := L.foldl (fun d k => d * 31 + (nI k).toInt64) d
theorem take_s {L : List Nat} {i : Nat} (h : i < L.length) : L.take (i + 1) = L.take i ++ [L.getD i 0] := by
  rw [List.take_add_one, List.getD_eq_getElem?_getD, List.getElem?_eq_getElem h]
  rfl
theorem dks_s {L : List Nat} {i : Nat} (d : Int64) (h : i < L.length) : dks d (L.take (i + 1)) = dks d (L.take i) * 31 + (nI (L.getD i 0)).toInt64 := by
  unfold dks
  rw [take_s h, List.foldl_append]
  rfl
/-- a copy, as far as i -/
def cpf (g f : Nat → Int32) (i : Nat) : Nat → Int32 := fun j => if j < i then g j else f j
theorem cpf_0 (g f : Nat → Int32) : cpf g f 0 = f := by
  funext j
  unfold cpf
  rw [if_neg (by omega)]
theorem cpf_step (g f : Nat → Int32) (i : Nat) : upd (cpf g f i) i (g i) = cpf g f (i + 1) := by
  funext j
  by_cases e : j = i
  · subst e
    rw [upd_s]
    unfold cpf
    rw [if_pos (by omega)]
  · rw [upd_n e]
    unfold cpf
    by_cases h : j < i
    · rw [if_pos h, if_pos (by omega)]
    · rw [if_neg h, if_neg (by omega)]
theorem cpf_in {g f : Nat → Int32} {i j : Nat} (h : j < i) : cpf g f i j = g j := if_pos h
