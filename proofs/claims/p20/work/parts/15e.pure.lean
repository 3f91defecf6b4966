/-! WHAT IS TOLD -/
def ct : PS → Nat → Int32
  | (N, T, A, B, _, pi, _, pl, go, hi, mi, re, lo), n => if n = 0 then nI pl else if n = 1 then nI N.length else if n = 2 then nI T.length else if n = 3 then nI A.length else if n = 4 then nI B.length else if n = 5 then nI go else if n = 6 then hi else if n = 7 then mi else if n = 8 then re else if n = 9 then lo else nI (pc pi N + pc pi T)
def dtl : PS → Nat → Nat → Int32
  | (N, T, _, _, to, pi, fe, _), k, n => if k ∈ N ∨ k ∈ T then (if n = 0 then (if k ∈ N then nI 0 else nI 1) else if n = 1 then (if k ∈ N then nI (N.idxOf k) else nI (T.idxOf k)) else if n = 2 then nI (to k) else if n = 3 then nI (pi k) else fe k) else -1
def fsm (N T : List Nat) (fe : Nat → Int32) : Nat → Int32
  | 0 => nI 0
  | n + 1 => if n ∈ N ∨ n ∈ T then fsm N T fe n + fe n else fsm N T fe n
def dj1 (to pi : Nat → Nat) (fe : Nat → Int32) (d : Int64) (k : Nat) : Int64 := (((d * 31 + (nI k).toInt64) * 31 + (nI (to k)).toInt64) * 31 + (nI (pi k)).toInt64) * 31 + (fe k).toInt64
def djs (to pi : Nat → Nat) (fe : Nat → Int32) (d : Int64) (L : List Nat) : Int64 := L.foldl (dj1 to pi fe) d
theorem djs_s {to pi : Nat → Nat} {fe : Nat → Int32} {L : List Nat} {i : Nat} (d : Int64) (h : i < L.length) : djs to pi fe d (L.take (i + 1)) = dj1 to pi fe (djs to pi fe d (L.take i)) (L.getD i 0) := by
  unfold djs
  rw [take_s h, List.foldl_append]
  rfl
def initS : PS := ([], [], [], [], fun _ => 0, fun _ => 0, fun _ => 0, 6, 0, 0, 0, 0, 0)
def zeroG : PG := (fun _ => 0, fun _ => 0, fun _ => 0, fun _ => 0, fun _ => 0, fun _ => 0, fun _ => 0)
theorem init_SR : SR initS zeroG := ⟨RowL.nil, RowL.nil, RowL.nil, RowL.nil, fun _ _ => rfl, fun _ _ => rfl, fun _ _ => rfl⟩
theorem init_WF : WF initS := ⟨fun _ h => absurd h List.not_mem_nil, fun _ h => absurd h List.not_mem_nil, fun _ h => absurd h List.not_mem_nil, fun _ h => absurd h List.not_mem_nil, List.nodup_nil, by decide, by decide, by decide, by decide, by decide, by decide, fun _ => Nat.zero_le _, fun _ => Nat.zero_le _⟩
