/-! THE PANTRY AS A VALUE: the rows new, tried; the lists of new, tried; touches, pins, fetches; places, goal, hits, misses, remembered, looks -/
abbrev PS : Type := List Nat × List Nat × List Nat × List Nat × (Nat → Nat) × (Nat → Nat) × (Nat → Int32) × Nat × Nat × Int32 × Int32 × Int32 × Int32
/-- what its seven rows of numbers hold -/
abbrev PG : Type := (Nat → Int32) × (Nat → Int32) × (Nat → Int32) × (Nat → Int32) × (Nat → Int32) × (Nat → Int32) × (Nat → Int32)
def SR : PS → PG → Prop
  | (N, T, A, B, to, pi, fe, _, _, _, _, _, _), (g0, g1, g2, g3, g4, g5, g6) => RowL N g0 ∧ RowL T g1 ∧ RowL A g2 ∧ RowL B g3 ∧ (∀ k : Nat, k < 40 → g4 k = nI (to k)) ∧ (∀ k : Nat, k < 40 → g5 k = nI (pi k)) ∧ ∀ k : Nat, k < 40 → g6 k = fe k
def WF : PS → Prop
  | (N, T, A, B, to, pi, _, pl, go, _, _, _, _) => KL N ∧ KL T ∧ KL A ∧ KL B ∧ (N ++ T).Nodup ∧ N.length + T.length ≤ 12 ∧ A.length ≤ 12 ∧ B.length ≤ 12 ∧ 2 ≤ pl ∧ pl ≤ 12 ∧ go ≤ 12 ∧ (∀ k : Nat, to k ≤ 1) ∧ ∀ k : Nat, pi k ≤ 9
/-- pinned jars of a row -/
def pc (pi : Nat → Nat) (L : List Nat) : Nat := L.countP (fun k => decide (0 < pi k))
theorem pc_le (pi : Nat → Nat) (L : List Nat) : pc pi L ≤ L.length := List.countP_le_length
theorem pc_s {pi : Nat → Nat} {L : List Nat} {i : Nat} (h : i < L.length) : pc pi (L.take (i + 1)) = pc pi (L.take i) + (if 0 < pi (L.getD i 0) then 1 else 0) := by
  unfold pc
  rw [take_s h, List.countP_append, List.countP_singleton]
  by_cases e : 0 < pi (L.getD i 0) <;> simp only [e, decide_true, decide_false, if_true, if_false] <;> rfl
theorem pc_st {pi : Nat → Nat} {L : List Nat} {i : Nat} (h : i < L.length) (hp : 0 < pi (L.getD i 0)) : pc pi (L.take (i + 1)) = pc pi (L.take i) + 1 := by rw [pc_s h, if_pos hp]
theorem pc_sf {pi : Nat → Nat} {L : List Nat} {i : Nat} (h : i < L.length) (hp : ¬ 0 < pi (L.getD i 0)) : pc pi (L.take (i + 1)) = pc pi (L.take i) := by rw [pc_s h, if_neg hp, Nat.add_zero]
theorem pc_tl (pi : Nat → Nat) (L : List Nat) (i : Nat) : pc pi (L.take i) ≤ L.length := Nat.le_trans (pc_le pi _) (by rw [List.length_take]; omega)
/-- the shelf that gives: 0 new, 1 tried -/
def gv (N T : List Nat) (pi : Nat → Nat) (go : Nat) : Nat := if pc pi N < N.length ∧ (max 1 go ≤ N.length ∨ T.length ≤ pc pi T) then 0 else 1
/-- a list that forgets its eldest -/
def tr (m : Nat) (L : List Nat) : List Nat := L.drop (L.length - m)
/-- one jar is looked at -/
def lk : PS → PS × Option Nat
  | (N, T, A, B, to, pi, fe, pl, go, hi, mi, re, lo) =>
    if gv N T pi go = 0 then
      match N with
      | [] => ((N, T, A, B, to, pi, fe, pl, go, hi, mi, re, lo), none)
      | k :: N' =>
        if 0 < pi k then ((N' ++ [k], T, A, B, to, pi, fe, pl, go, hi, mi, re, lo + 1), none)
        else if 0 < to k then ((N', T ++ [k], A, B, va_up to k 0, pi, fe, pl, go, hi, mi, re, lo + 1), none)
        else ((N', T, tr pl (A ++ [k]), B, to, pi, fe, pl, go, hi, mi, re, lo + 1), some k)
    else
      match T with
      | [] => ((N, T, A, B, to, pi, fe, pl, go, hi, mi, re, lo), none)
      | k :: T' =>
        if 0 < pi k then ((N, T' ++ [k], A, B, to, pi, fe, pl, go, hi, mi, re, lo + 1), none)
        else if 0 < to k then ((N, T' ++ [k], A, B, va_up to k 0, pi, fe, pl, go, hi, mi, re, lo + 1), none)
        else ((N, T', A, tr pl (B ++ [k]), to, pi, fe, pl, go, hi, mi, re, lo + 1), some k)
/-- sweeping, of at most so many looks -/
def swN : Nat → PS → Option (PS × Nat)
  | 0, _ => none
  | n + 1, s => match lk s with
    | (s', some k) => some (s', k)
    | (s', none) => swN n s'
def pnd : PS → Nat
  | (N, T, _, _, _, pi, _) => pc pi N + pc pi T
def jrs : PS → Nat
  | (N, T, _) => N.length + T.length
/-- swept till one leaves -/
def sw (s : PS) : PS × Nat := (swN 200 s).getD (s, 0)
/-- what fetching would tell: 0 hit, 1 not remembered, 2 by new, 3 by tried, 4 it cannot be fetched -/
def oc : PS → Nat → Nat
  | (N, T, A, B, _, pi, _, pl, _), k => if k ∈ N ∨ k ∈ T then 0 else if pl ≤ N.length + T.length ∧ N.length + T.length ≤ pc pi N + pc pi T then 4 else if k ∈ A then 2 else if k ∈ B then 3 else 1
def ocI (n : Nat) : Int32 := if n = 4 then -9 else nI n
/-- by how much the goal turns -/
def tn (other own : List Nat) : Nat := max 1 (other.length / own.length)
def rcl : PS → Nat → Nat → PS
  | (N, T, A, B, to, pi, fe, pl, go, hi, mi, re, lo), k, o =>
    if o = 2 then (N, T, A.eraseIdx (A.idxOf k), B, to, pi, fe, pl, min pl (go + tn B A), hi, mi, re + 1, lo)
    else if o = 3 then (N, T, A, B.eraseIdx (B.idxOf k), to, pi, fe, pl, go - tn A B, hi, mi, re + 1, lo)
    else (N, T, A, B, to, pi, fe, pl, go, hi, mi, re, lo)
/-- a new jar -/
def plc : PS → Nat → Nat → PS
  | (N, T, A, B, to, pi, fe, pl, go, hi, mi, re, lo), k, o =>
    if o = 1 then (N ++ [k], T, A, B, va_up to k 0, va_up pi k 0, va_up fe k 1, pl, go, hi, mi, re, lo)
    else (N, T ++ [k], A, B, va_up to k 0, va_up pi k 0, va_up fe k 1, pl, go, hi, mi, re, lo)
def hitS : PS → Nat → PS
  | (N, T, A, B, to, pi, fe, pl, go, hi, mi, re, lo), k => (N, T, A, B, va_up to k 1, pi, va_up fe k (fe k + 1), pl, go, hi + 1, mi, re, lo)
def missS : PS → PS
  | (N, T, A, B, to, pi, fe, pl, go, hi, mi, re, lo) => (N, T, A, B, to, pi, fe, pl, go, hi, mi + 1, re, lo)
def plS : PS → Nat
  | (_, _, _, _, _, _, _, pl, _) => pl
def hiS : PS → Int32
  | (_, _, _, _, _, _, _, _, _, hi, _) => hi
/-- fetching a kind -/
def br (s : PS) (k : Nat) : PS :=
  let o := oc s k
  if o = 4 then s else if o = 0 then hitS s k else
    let s1 := rcl (missS s) k o
    plc (if plS s1 ≤ jrs s1 then (sw s1).1 else s1) k o
/-- fetching a series, from its i-th on -/
def srs (fr st : Nat) : Nat → Nat → PS → PS
  | 0, _, s => s
  | n + 1, i, s => srs fr st n (i + 1) (br s ((fr + i * st) % 40))
def swM (p : Nat) : Nat → PS → PS
  | 0, s => s
  | n + 1, s => if p < jrs s then swM p n (sw s).1 else s
def setPl (p : Nat) : PS → PS
  | (N, T, A, B, to, pi, fe, _, go, hi, mi, re, lo) => (N, T, A, B, to, pi, fe, p, go, hi, mi, re, lo)
def cutS (p : Nat) : PS → PS
  | (N, T, A, B, to, pi, fe, pl, go, hi, mi, re, lo) => (N, T, tr p A, tr p B, to, pi, fe, pl, min go p, hi, mi, re, lo)
/-- other places -/
def rsz (p : Nat) (s : PS) : PS := cutS p (swM p 12 (setPl p s))
/-- the cells of a store: a 0 the object, a 1 .. a 8 rows and their numbers, a 9 .. a 14 tables and their numbers -/
def wSt (D : va_G) (a : Nat → Nat) : PS → PG → va_W
  | (N, T, A, B, _, _, _, pl, go, hi, mi, re, lo), (g0, g1, g2, g3, g4, g5, g6) =>
    [(a 0, .inr (1, [.ref (a 1), .ref (a 3), .ref (a 5), .ref (a 7), .ref (a 9), .ref (a 11), .ref (a 13), .int (nI pl), .int (nI go), .int hi, .int mi, .int re, .int lo])),
     (a 1, .inr (0, [.ref (a 2), .int (nI N.length)])), (a 2, .inl (D.1 5, 40, .inl g0)), (a 3, .inr (0, [.ref (a 4), .int (nI T.length)])), (a 4, .inl (D.1 5, 40, .inl g1)),
     (a 5, .inr (0, [.ref (a 6), .int (nI A.length)])), (a 6, .inl (D.1 5, 40, .inl g2)), (a 7, .inr (0, [.ref (a 8), .int (nI B.length)])), (a 8, .inl (D.1 5, 40, .inl g3)),
     (a 9, .inr (2, [.ref (a 10)])), (a 10, .inl (D.1 5, 40, .inl g4)), (a 11, .inr (2, [.ref (a 12)])), (a 12, .inl (D.1 5, 40, .inl g5)), (a 13, .inr (2, [.ref (a 14)])), (a 14, .inl (D.1 5, 40, .inl g6))]
theorem nmax {a b : Nat} (ha : a < 2147483648) (hb : b < 2147483648) : (if nI a < nI b then nI b else nI a) = nI (max a b) := by
  by_cases h : a < b
  · rw [if_pos ((nI_ltI ha hb).mpr h), Nat.max_eq_right (Nat.le_of_lt h)]
  · rw [if_neg (fun z => h ((nI_ltI ha hb).mp z)), Nat.max_eq_left (by omega)]
theorem nmin {a b : Nat} (ha : a < 2147483648) (hb : b < 2147483648) : (if nI b < nI a then nI b else nI a) = nI (min a b) := by
  by_cases h : b < a
  · rw [if_pos ((nI_ltI hb ha).mpr h), Nat.min_eq_right (Nat.le_of_lt h)]
  · rw [if_neg (fun z => h ((nI_ltI hb ha).mp z)), Nat.min_eq_left (by omega)]
theorem ocI_n {n : Nat} (h : n ≠ 4) : ocI n = nI n := if_neg h
theorem ocI_4 : ocI 4 = -9 := if_pos rfl
theorem yn_oa {p q : Prop} [Decidable p] [Decidable q] (h : ¬ yn p = 0) : yn (p ∨ q) = 1 := yn_t (Or.inl (Classical.byContradiction (fun z => h (yn_f z))))
theorem yn_ob {p q : Prop} [Decidable p] [Decidable q] (h : ¬ yn q = 0) : yn (p ∨ q) = 1 := yn_t (Or.inr (Classical.byContradiction (fun z => h (yn_f z))))
