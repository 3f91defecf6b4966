/-! LISTS OF KINDS AND WHAT ROWS OF NUMBERS HOLD OF THEM -/
def RowL (L : List Nat) (f : Nat → Int32) : Prop := ∀ i : Nat, i < L.length → f i = nI (L.getD i 0)
def KL (L : List Nat) : Prop := ∀ k ∈ L, k < 40
theorem KL.g {L : List Nat} (h : KL L) (i : Nat) : L.getD i 0 < 40 := by
  by_cases hi : i < L.length
  · rw [List.getD_eq_getElem?_getD, List.getElem?_eq_getElem hi]
    exact h _ (List.getElem_mem hi)
  · rw [List.getD_eq_getElem?_getD, List.getElem?_eq_none (by omega)]
    decide
theorem RowL.nil {f : Nat → Int32} : RowL [] f := fun i h => absurd h (Nat.not_lt_zero i)
theorem RowL.of {L : List Nat} {f g : Nat → Int32} (h : RowL L f) (e : ∀ i : Nat, i < L.length → g i = f i) : RowL L g := fun i hi => (e i hi).trans (h i hi)
theorem ix_found : ∀ {L : List Nat} {i k : Nat}, i < L.length → L.getD i 0 = k → (∀ j : Nat, j < i → ¬ L.getD j 0 = k) → k ∈ L ∧ L.idxOf k = i
  | [], i, k, hi, _, _ => absurd hi (Nat.not_lt_zero i)
  | a :: t, 0, k, _, h, _ => by
    have e : a = k := by simpa using h
    subst e
    exact ⟨List.mem_cons_self, List.idxOf_cons_self⟩
  | a :: t, i + 1, k, hi, h, hb => by
    have ha : ¬ a = k := by simpa using hb 0 (Nat.succ_pos i)
    obtain ⟨h1, h2⟩ := ix_found (L := t) (i := i) (k := k) (by simpa using hi) (by simpa using h) (fun j hj => by simpa using hb (j + 1) (Nat.succ_lt_succ hj))
    refine ⟨List.mem_cons_of_mem _ h1, ?_⟩
    rw [List.idxOf_cons, h2, show (a == k) = false from beq_false_of_ne ha]
    rfl
theorem ix_none {L : List Nat} {k : Nat} (hb : ∀ j : Nat, j < L.length → ¬ L.getD j 0 = k) : k ∉ L := by
  intro h
  obtain ⟨j, hj, e⟩ := List.getElem_of_mem h
  refine hb j hj ?_
  rw [List.getD_eq_getElem?_getD, List.getElem?_eq_getElem hj]
  exact e
def ixv (L : List Nat) (k : Nat) : Int32 := if k ∈ L then nI (L.idxOf k) else -1
