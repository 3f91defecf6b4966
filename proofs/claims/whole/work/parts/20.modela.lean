/-! ROWS FOR THE MODEL: copies -/
section KM
variable {l : Launch} {G : KX} {D : va_G} {R : Room} {cc : ByteArray} {own : String} {nL ce sl : Nat} {ws : va_W} {lv : List (Nat × Value)} {st : List Value}
theorem k_copy (hC : CX G D cc own nL) (pc : Nat) {ix a0 a n0 n1 sp dp n : Nat} {f g : Nat → Int32} (q0 q1 : Nat) (ws' : va_W) (hdg : decode cc pc = .ok (.invokestatic ix, 3)) (hw : Cond.methodLink own ix arraycopyName ∈ wsL_law) (hw2 : Cond.native arraycopyName ∈ wsL_law) (hw3 : Cond.static arraycopyName ∈ wsL_law) (hw4 : Cond.initialized "java/lang/System" ∈ wsL_law)
    (hR : 1 ≤ R.frames ∧ (st.map fun v => v.category).sum + 18 ≤ R.locals) (ha0 : ws[q0]? = some (a0, .inl (D.1 5, n0, .inl f))) (ha1 : ws[q1]? = some (a, .inl (D.1 5, n1, .inl g))) (hb : n0 < 2147483648 ∧ n1 < 2147483648) (h4 : sp + n ≤ n0) (h5 : dp + n ≤ n1)
    (hws : ws.set q1 (a, .inl (D.1 5, n1, .inl (va_cpy f g sp dp n))) = ws') (kk : KJ l G D R nL ce sl ws' lv (pc + 3) st) : KJ l G D R nL ce sl ws lv pc (.int (nI n) :: .int (nI dp) :: .ref a :: .int (nI sp) :: .ref a0 :: st) := fun H locs ls hP hD hS hl => by
  have e1 : (nI sp).toNatClampNeg = sp := nI_clamp (by omega)
  have e2 : (nI dp).toNatClampNeg = dp := nI_clamp (by omega)
  have e3 : (nI n).toNatClampNeg = n := nI_clamp (by omega)
  refine va_copyi hC.ex hC.cd (hC.ml.trans hl.1.symm) hC.on (hC.wd _ hw) (hC.wd _ hw2) (hC.wd _ hw3) (hC.wd _ hw4) hC.kk hP hD hS q0 q1 0 0 ha0 ha1 rfl rfl rfl (nI_pos (by omega)) (nI_pos (by omega)) (nI_pos (by omega)) (by rw [e1, e3]; exact h4) (by rw [e2, e3]; exact h5) (fun _ _ => rfl) hR.1 (by rw [show nativeFrameWords "java/lang/System" "arraycopy" 5 = 7 by decide +kernel]; exact hR.2) hdg (fun H1 locs1 hP1 hD1 hS1 => ?_)
  rw [e1, e2, e3, hws] at hP1 hD1
  exact kk H1 locs1 ls hP1 hD1 hS1 hl
end KM
/-! THE MODEL AS A VALUE -/
/-- the shelf that a kind has -/
def sfI (N T : List Nat) (k : Nat) : Int32 := if k ∈ N then 0 else if k ∈ T then nI 1 else -1
theorem sfI_m1 {N T : List Nat} {k : Nat} : sfI N T k = -1 ↔ ¬ (k ∈ N ∨ k ∈ T) := by
  unfold sfI
  by_cases h1 : k ∈ N
  · rw [if_pos h1]
    exact ⟨fun h => absurd h (by decide), fun h => absurd (Or.inl h1) h⟩
  · rw [if_neg h1]
    by_cases h2 : k ∈ T
    · rw [if_pos h2]
      exact ⟨fun h => absurd h (by decide), fun h => absurd (Or.inr h2) h⟩
    · rw [if_neg h2]
      exact ⟨fun _ h => h.elim h1 h2, fun _ => rfl⟩
