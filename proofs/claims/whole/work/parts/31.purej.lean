/-! AS MANY JARS AS PLACES AT MOST: kept by the calls -/
theorem upPi_jp {s : PS} (h : jrs s ≤ plS s) (k x : Nat) : jrs (upPi s k x) ≤ plS (upPi s k x) := h
theorem goTo_jp {s : PS} (h : jrs s ≤ plS s) (g : Nat) : jrs (goTo s g) ≤ plS (goTo s g) := h
theorem eatS_jp {s : PS} (h : jrs s ≤ plS s) (k : Nat) : jrs (eatS s k) ≤ plS (eatS s k) := by
  obtain ⟨N, T, A, B, to, pi, fe, pl, go, hi, mi, re, lo⟩ := s
  have l1 := (ea_sub N k).length_le
  have l2 := (ea_sub T k).length_le
  have h2 : N.length + T.length ≤ pl := h
  show (ea N k).length + (ea T k).length ≤ pl
  omega
theorem init_jp : jrs initS ≤ plS initS := by decide
