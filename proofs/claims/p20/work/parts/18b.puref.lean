/-! THE CALLS AS FUNCTIONS: each has K (0 answers, 1 the first exception, 2 the second), V the answer, S the pantry behind it -/
def Ck (p : Int32) : Prop := ¬ p < 0 ∧ p < nI 40
def Mk (p : Int32) : Prop := ¬ p < nI 1 ∧ p ≤ nI 30
def Sk (p : Int32) : Prop := p = 0 ∨ p = nI 1
def kn (p : Int32) : Nat := p.toNatClampNeg
theorem kn_nI {k : Nat} (h : k < 2147483648) : kn (nI k) = k := nI_clamp h
theorem Ck.k {p : Int32} (h : Ck p) : kn p < 40 ∧ nI (kn p) = p := by
  obtain ⟨j, hj, rfl⟩ := nI_of h.1
  rw [kn_nI hj]
  exact ⟨(nI_ltI hj (by decide)).mp h.2, rfl⟩
theorem Ck.of {k : Nat} (h : k < 40) : Ck (nI k) := ⟨nI_pos (by omega), (nI_ltI (by omega) (by decide)).mpr h⟩
theorem nn_of {p : Int32} {m n : Nat} (hm : m < 2147483648) (hn : n < 2147483648) (h1 : ¬ p < nI m) (h2 : p ≤ nI n) : m ≤ kn p ∧ kn p ≤ n ∧ nI (kn p) = p := by
  have h0 : ¬ p < 0 := by
    intro h
    refine h1 ?_
    rcases Nat.eq_zero_or_pos m with e | e
    · subst e; rw [nI_0]; exact h
    · exact Int32.lt_trans h (by rw [← nI_0]; exact (nI_ltI (by decide) hm).mpr e)
  obtain ⟨j, hj, rfl⟩ := nI_of h0
  rw [kn_nI hj]
  refine ⟨?_, (nI_leI hj hn).mp h2, rfl⟩
  exact Nat.le_of_not_lt (fun z => h1 ((nI_ltI hj hm).mpr z))
theorem Mk.k {p : Int32} (h : Mk p) : kn p ≤ 30 ∧ nI (kn p) = p := (nn_of (by decide) (by decide) h.1 h.2).2
theorem lt_le {p : Int32} {n : Nat} (hn : n + 1 < 2147483648) (h : p < nI (n + 1)) : p ≤ nI n := by
  by_cases h0 : p < 0
  · exact Int32.le_of_lt (Int32.lt_of_lt_of_le h0 (nI_pos' (by omega)))
  · obtain ⟨j, hj, rfl⟩ := nI_of h0
    exact (nI_leI hj (by omega)).mpr (by have := (nI_ltI hj hn).mp h; omega)
/-- a call's outcome: of the kinds of refusal the first that holds -/
noncomputable def kK (c1 c2 : Prop) : Nat := @ite _ c1 (Classical.propDecidable _) 1 (@ite _ c2 (Classical.propDecidable _) 2 0)
theorem kK_0 {c1 c2 : Prop} (h1 : ¬ c1) (h2 : ¬ c2) : kK c1 c2 = 0 := by unfold kK; rw [if_neg h1, if_neg h2]
theorem kK_1 {c1 c2 : Prop} (h1 : c1) : kK c1 c2 = 1 := by unfold kK; rw [if_pos h1]
theorem kK_2 {c1 c2 : Prop} (h1 : ¬ c1) (h2 : c2) : kK c1 c2 = 2 := by unfold kK; rw [if_neg h1, if_pos h2]
/-- is there a jar -/
def inn (s : PS) (k : Nat) : Prop := k ∈ s.1 ∨ k ∈ s.2.1
def piS (s : PS) (k : Nat) : Nat := s.2.2.2.2.2.1 k
def goS (s : PS) : Nat := s.2.2.2.2.2.2.2.2.1
noncomputable def fetchK (s : PS) (p : Int32) : Nat := kK (¬ Ck p) (oc s (kn p) = 4)
noncomputable def serK (p0 p1 p2 : Int32) : Nat := kK (¬ Ck p0) (¬ (Ck p1 ∧ Mk p2))
noncomputable def pinK (s : PS) (p : Int32) : Nat := kK (¬ Ck p) (¬ inn s (kn p) ∨ 9 ≤ piS s (kn p))
noncomputable def unpinK (s : PS) (p : Int32) : Nat := kK (¬ Ck p) (¬ inn s (kn p) ∨ piS s (kn p) = 0)
noncomputable def eatK (s : PS) (p : Int32) : Nat := kK (¬ Ck p) (¬ inn s (kn p) ∨ 0 < piS s (kn p))
noncomputable def setPlacesK (s : PS) (p : Int32) : Nat := kK (p < nI 2 ∨ ¬ p ≤ nI 12) (kn p < pnd s)
noncomputable def setGoalK (s : PS) (p : Int32) : Nat := kK (p < 0 ∨ ¬ p ≤ nI (plS s)) False
noncomputable def jarK (p0 p1 : Int32) : Nat := kK (¬ Ck p0 ∨ p1 < 0 ∨ ¬ p1 < nI 5) False
noncomputable def rowK (L0 L1 : List Nat) (p0 p1 : Int32) : Nat := kK (¬ Sk p0 ∨ ∀ i : Nat, i < (@ite _ (p0 = 0) (Classical.propDecidable _) L0 L1).length → p1 ≠ nI i) False
noncomputable def rowV (L0 L1 : List Nat) (p0 p1 : Int32) : Int32 := nI ((@ite _ (p0 = 0) (Classical.propDecidable _) L0 L1).getD (kn p1) 0)
noncomputable def countK (p : Int32) : Nat := kK (p < 0 ∨ ¬ p < nI 11) False
noncomputable def wouldK (p : Int32) : Nat := kK (¬ Ck p) False
def upPi (s : PS) (k x : Nat) : PS := match s with
  | (N, T, A, B, to, pi, fe, pl, go, hi, mi, re, lo) => (N, T, A, B, to, va_up pi k x, fe, pl, go, hi, mi, re, lo)
def eatS (s : PS) (k : Nat) : PS := match s with
  | (N, T, A, B, to, pi, fe, pl, go, hi, mi, re, lo) => (ea N k, ea T k, A, B, to, pi, fe, pl, go, hi, mi, re, lo)
def feS (s : PS) (k : Nat) : Int32 := s.2.2.2.2.2.2.1 k
def goTo (s : PS) (g : Nat) : PS := match s with
  | (N, T, A, B, to, pi, fe, pl, _, hi, mi, re, lo) => (N, T, A, B, to, pi, fe, pl, g, hi, mi, re, lo)
/-- hits of a series -/
def serV (s : PS) (p0 p1 p2 : Int32) : Int32 := hiS (srs (kn p0) (kn p1) (kn p2) 0 s) - hiS s
def serS (s : PS) (p0 p1 p2 : Int32) : PS := srs (kn p0) (kn p1) (kn p2) 0 s
def nextV (s : PS) : Int32 := if pnd s < jrs s then nI (sw s).2 else -1
/-- the places to advise: from p on, n more, the best so far and its hits -/
def advL (s : PS) (p0 p1 p2 : Int32) : Nat → Nat → Int32 → Int32 → Int32
  | 0, _, b, _ => b
  | n + 1, p, b, h => if serV (rsz p s) p0 p1 p2 ≤ h then advL s p0 p1 p2 n (p + 1) b h else advL s p0 p1 p2 n (p + 1) (nI p) (serV (rsz p s) p0 p1 p2)
def advV (s : PS) (p0 p1 p2 : Int32) : Int32 := advL s p0 p1 p2 (13 - max 2 (pnd s)) (max 2 (pnd s)) (-1) (-1)
def digV (s : PS) : Int64 :=
  let d1 := (List.range 11).foldl (fun d n => d * 31 + (ct s n).toInt64) 1541
  let d2 := dks (djs s.2.2.2.2.1 s.2.2.2.2.2.1 s.2.2.2.2.2.2.1 d1 s.1) s.2.2.1
  dks (djs s.2.2.2.2.1 s.2.2.2.2.2.1 s.2.2.2.2.2.2.1 d2 s.2.1) s.2.2.2.1
def meanV (s : PS) : UInt64 := if jrs s < 1 then FP.dconst0 else FP.ddiv (FP.i2d (fsm s.1 s.2.1 s.2.2.2.2.2.2.1 40)) (FP.i2d (nI (jrs s)))
theorem pnd_le {s : PS} (h : WF s) : pnd s ≤ 12 := by
  obtain ⟨N, T, A, B, to, pi, fe, pl, go, hi, mi, re, lo⟩ := s
  have h1 := pc_le pi N
  have h2 := pc_le pi T
  have h3 : N.length + T.length ≤ 12 := jrs_12 h
  show pc pi N + pc pi T ≤ 12
  omega
theorem upPi_wf {s : PS} (h : WF s) {k x : Nat} (hx : x ≤ 9) : WF (upPi s k x) := by
  obtain ⟨N, T, A, B, to, pi, fe, pl, go, hi, mi, re, lo⟩ := s
  obtain ⟨kN, kT, kA, kB, nd, len, lA, lB, p2, p12, g12, t1, p9⟩ := h
  exact ⟨kN, kT, kA, kB, nd, len, lA, lB, p2, p12, g12, t1, up_le p9 k x hx⟩
theorem ea_sub (L : List Nat) (k : Nat) : List.Sublist (ea L k) L := by
  unfold ea
  split
  · exact List.eraseIdx_sublist L _
  · exact List.Sublist.refl L
theorem eatS_wf {s : PS} (h : WF s) (k : Nat) : WF (eatS s k) := by
  obtain ⟨N, T, A, B, to, pi, fe, pl, go, hi, mi, re, lo⟩ := s
  obtain ⟨kN, kT, kA, kB, nd, len, lA, lB, p2, p12, g12, t1, p9⟩ := h
  have s1 := ea_sub N k
  have s2 := ea_sub T k
  have l1 := s1.length_le
  have l2 := s2.length_le
  exact ⟨fun x hx => kN x (s1.subset hx), fun x hx => kT x (s2.subset hx), kA, kB, nd.sublist (s1.append s2), by omega, lA, lB, p2, p12, g12, t1, p9⟩
theorem goTo_wf {s : PS} (h : WF s) {g : Nat} (hg : g ≤ 12) : WF (goTo s g) := by
  obtain ⟨N, T, A, B, to, pi, fe, pl, go, hi, mi, re, lo⟩ := s
  obtain ⟨kN, kT, kA, kB, nd, len, lA, lB, p2, p12, g12, t1, p9⟩ := h
  exact ⟨kN, kT, kA, kB, nd, len, lA, lB, p2, p12, hg, t1, p9⟩
