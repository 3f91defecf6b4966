/-! The law: something done to both -/
/-- what find answers -/
noncomputable def fV (s : PS) (x : SX) (k : Nat) : Value := @ite _ (inn s k) (Classical.propDecidable _) (.ref (xA x k)) .null
theorem fV_in {s : PS} {x : SX} {k : Nat} (h : inn s k) : fV s x k = .ref (xA x k) := if_pos h
theorem fV_no {s : PS} {x : SX} {k : Nat} (h : ¬ inn s k) : fV s x k = .null := if_neg h
theorem kn_ek {k : Nat} (h : k < 40) : kn (nI k) = k := kn_nI (by omega)
theorem nd_getD {L : List Nat} (h : L.Nodup) {i j : Nat} (hij : i < j) (hj : j < L.length) : ¬ L.getD i 0 = L.getD j 0 := by
  rw [List.getD_eq_getElem?_getD, List.getD_eq_getElem?_getD, List.getElem?_eq_getElem (by omega), List.getElem?_eq_getElem hj]
  exact List.pairwise_iff_getElem.mp h i j (by omega) hj hij
theorem ea_at {L : List Nat} (h : L.Nodup) {c k : Nat} (hc : c < L.length) (e : L.getD c 0 = k) : ea L k = L.eraseIdx c ∧ ∀ j : Nat, j < c → ¬ (L.eraseIdx c).getD j 0 = k := by
  have hf := ix_found hc e (fun j hj z => nd_getD h hj hc (z.trans e.symm))
  refine ⟨?_, fun j hj z => ?_⟩
  · unfold ea
    rw [if_pos hf.1, hf.2]
  · rw [List.getD_eq_getElem?_getD, List.getElem?_eraseIdx, if_pos hj, ← List.getD_eq_getElem?_getD] at z
    exact nd_getD h hj hc (z.trans e.symm)
theorem ea_no {L : List Nat} {k : Nat} (h : ∀ j : Nat, j < L.length → ¬ L.getD j 0 = k) : ea L k = L := if_neg (ix_none h)
theorem m1_m (c : Nat) : nI c + (-1) = nI c - nI 1 := by
  rw [Int32.sub_eq_add_neg]
  rfl
set_option maxHeartbeats 2000000 in
set_option maxRecDepth 100000 in
/-- act -/
theorem c_L_act (l : Launch) (hfl : l.stackTraces = false) (D : va_G) (bb LS : Nat) (xs : Nat → Int32) (h m p r : Nat) (a b : Nat → Nat) (s s2 : PS) (g g2 : PG) (x : SX) (zz : Int32) (hLS : LS ≤ 260) (hO : OKs s g x) : MS l yL_act cL_act 10 (some .boolean) 9 161 D bb LS xs [.ref h, .ref m, .int zz] ((h, .inr (3, [.ref (a 0), .ref (b 0)])) :: (wSt D a s g ++ (wSt D b s2 g2 ++ (wSm D m p r s x)))) (fun v (u : PS × PG × PS × PG × SX) => v = some (.int (nI 1)) ∧ OKs u.1 u.2.1 u.2.2.2.2 ∧ (xL x).length ≤ (xL u.2.2.2.2).length) (fun u => ((h, .inr (3, [.ref (a 0), .ref (b 0)])) :: (wSt D a u.1 u.2.1 ++ (wSt D b u.2.2.1 u.2.2.2.1 ++ (wSm D m p r u.1 u.2.2.2.2))))) 2770 36010 := by
  refine MS.enter hfl (by decide) [(0, .ref h), (1, .ref m), (2, .int zz)] rfl (Nat.le_of_ble_eq_true rfl) (fun G hC hE hX hZ => ?_)
  have hC : CX G D cL_act RL 10 := hC
  obtain ⟨hS, hW, hJ, hI⟩ := id hO
  have hpn := pnd_le hW
  have hpl0 := hW.pl12
  have hgo0 := hW.go12
  have cut23 : ∀ kd : Nat, kd < 40 → KJ l G D ({ frames := 9, cells := 2770, slots := 36010, locals := 161 } : Room) 10 0 0 ((h, .inr (3, [.ref (a 0), .ref (b 0)])) :: (wSt D a s g ++ (wSt D b s2 g2 ++ (wSm D m p r s x)))) [(0, .ref h), (1, .ref m), (2, .int zz)] 23 (.int (nI kd) :: []) := by
    intro kd hk
    have ekn := kn_ek hk
    have hp9 := hW.p9S kd
    have cut333 : KJ l G D ({ frames := 9, cells := 2770, slots := 36010, locals := 161 } : Room) 10 0 0 ((h, .inr (3, [.ref (a 0), .ref (b 0)])) :: (wSt D a s g ++ (wSt D b s2 g2 ++ (wSm D m p r s x)))) [(3, .int (nI kd)), (0, .ref h), (1, .ref m), (2, .int zz)] 333 ([]) := by
      skip
      refine k_iconst hC 333 dL_act_333 (nI 2) (by decide) ?_
      refine k_iload_n hC 334 dL_act_334 rfl ?_
      refine k_iconst hC 335 dL_act_335 (nI 2) (by decide) ?_
      refine k_ishr hC 336 dL_act_336 (KJ.topi (y := (zz >>> ((nI 2) &&& 31))) rfl ?_)
      refine k_bipush hC 337 dL_act_337 (nI 11) (by decide) ?_
      refine f_callS hC 339 ([]) ((h, .inr (3, [.ref (a 0), .ref (b 0)])) :: (wSt D a s g ++ (wSt D b s2 g2 ++ (wSm D m p r s x)))) (fun (b339 : Nat) => ((h, .inr (3, [.ref (a 0), .ref (b 0)])) :: (wSt D a s g ++ (wSt D b s2 g2 ++ (wSm D m p r s x))))) (c_L_below l D _ 11 (by decide) (by decide)) cw_RL_19 dL_act_339 ⟨Nat.le_of_ble_eq_true rfl, Nat.le_of_ble_eq_true rfl, Nat.le_of_ble_eq_true rfl, Nat.le_of_ble_eq_true rfl⟩ rfl (Nat.le_of_ble_eq_true rfl) rfl (fun _ => rfl) (fun _ => rfl) _ rfl (fun v (b339 : Nat) hp => ?_)
      obtain ⟨rfl, hb339⟩ := hp
      refine KJ.eqs (st' := .int (nI b339) :: .int (nI 2) :: []) rfl ?_
      refine n_iadd hC 342 (2 + b339) dL_act_342 rfl ?_
      refine k_istore hC 343 5 [(5, .int (nI (2 + b339))), (3, .int (nI kd)), (0, .ref h), (1, .ref m), (2, .int zz)] dL_act_343 (by decide) rfl ?_
      refine k_aload_n hC 345 dL_act_345 rfl ?_
      refine f_callVe hC 346 31 ((h, .inr (3, [.ref (a 0), .ref (b 0)])) :: (wSt D a s g ++ wSt D b s2 g2)) (fun u => ((h, .inr (3, [.ref (a 0), .ref (b 0)])) :: (wSt D a s g ++ (wSt D b s2 g2 ++ (wSm D m p r s x))))) (f_sim_pinned l D m p r s x hW hJ) cw_RL_55 dL_act_346 ⟨Nat.le_of_ble_eq_true rfl, Nat.le_of_ble_eq_true rfl, Nat.le_of_ble_eq_true rfl, Nat.le_of_ble_eq_true rfl⟩ rfl (Nat.le_of_ble_eq_true rfl) rfl rfl rfl (by simp only [List.append_assoc, List.cons_append, List.nil_append, List.append_nil]) (fun _ => Nat.le_refl _) (fun _ => by simp only [List.append_assoc, List.cons_append, List.nil_append, List.append_nil]) _ rfl (fun v u hp => ?_)
      obtain rfl := hp
      refine KJ.eqs (st' := .int (nI (pnd s)) :: []) rfl ?_
      refine k_iload hC 349 dL_act_349 rfl ?_
      refine n_icmp_le hC 351 356 dL_act_351 (by decide) (by omega) (by omega) (fun h351 => ?_) (fun h351 => ?_)
      · skip
        refine k_aload_n hC 356 dL_act_356 rfl ?_
        refine k_getf hC 357 31 0 dL_act_357 rfl rfl inlX5 (by decide) wq_4_3 rfl ?_
        refine KJ.eqs (st' := .int (nI (plS s)) :: []) rfl ?_
        refine k_istore hC 360 6 [(6, .int (nI (plS s))), (5, .int (nI (2 + b339))), (3, .int (nI kd)), (0, .ref h), (1, .ref m), (2, .int zz)] dL_act_360 (by decide) rfl ?_
        refine k_aload_n hC 362 dL_act_362 rfl ?_
        refine k_iload hC 363 dL_act_363 rfl ?_
        refine fp_callVe hC 365 31 ((h, .inr (3, [.ref (a 0), .ref (b 0)])) :: (wSt D a s g ++ wSt D b s2 g2)) (fun u3 => ((h, .inr (3, [.ref (a 0), .ref (b 0)])) :: (wSt D a s g ++ (wSt D b s2 g2 ++ (wSm D m p r (rsz (2 + b339) s) u3))))) (f_sim_setPlaces l D m p r s x (2 + b339) hW hJ (by omega) (by omega) h351) cw_RL_62 dL_act_365 ⟨Nat.le_of_ble_eq_true rfl, Nat.le_of_ble_eq_true rfl, Nat.le_of_ble_eq_true rfl, Nat.le_of_ble_eq_true rfl⟩ rfl (Nat.le_of_ble_eq_true rfl) rfl rfl rfl (by simp only [List.append_assoc, List.cons_append, List.nil_append, List.append_nil]) (fun _ u hp => wSm_le hp.2.2) (fun _ => by simp only [List.append_assoc, List.cons_append, List.nil_append, List.append_nil]) _ rfl (fun v u3 hp => ?_)
        obtain ⟨rfl, hJ3, hL3⟩ := hp
        have ep : kn (nI (2 + b339)) = 2 + b339 := kn_nI (by omega)
        have hK0 : setPlacesK s (nI (2 + b339)) = 0 := kK_0 (fun z => z.elim (fun y => absurd ((nI_ltI (by omega) (by omega)).mp y) (by omega)) (fun y => y ((nI_leI (by omega) (by omega)).mpr (by omega)))) (by rw [ep]; omega)
        refine KJ.eqs (st' := []) rfl ?_
        refine k_aload_n hC 368 dL_act_368 rfl ?_
        refine k_iload hC 369 dL_act_369 rfl ?_
        refine g_callV hC hX 371 0 ([]) (wSm D m p r (rsz (2 + b339) s) u3) (fun uq => ((h, .inr (3, [.ref (a 0), .ref (b 0)])) :: (wSt D a uq.1.1 uq.1.2 ++ (wSt D b uq.2.1 uq.2.2 ++ (wSm D m p r (rsz (2 + b339) s) u3))))) (c_X3_setPlaces l hfl D h a b s s2 g g2 (nI (2 + b339)) hS hW) cw_RL_66 dL_act_371 ⟨Nat.le_of_ble_eq_true rfl, Nat.le_of_ble_eq_true rfl, Nat.le_of_ble_eq_true rfl, Nat.le_of_ble_eq_true rfl⟩ rfl (Nat.le_of_ble_eq_true rfl) rfl rfl rfl (by simp only [List.append_assoc, List.cons_append, List.nil_append, List.append_nil]) (fun _ => rfl) (fun _ => by simp only [List.append_assoc, List.cons_append, List.nil_append, List.append_nil]) _ rfl (fun v uq hp => ?_) (fun E hx => absurd hx (no_x hK0))
        obtain ⟨-, rfl, euq, hSq⟩ := hp
        refine KJ.eqs (st' := .int (nI (plS s)) :: []) rfl ?_
        obtain ⟨⟨saq, gaq⟩, sbq, gbq⟩ := uq
        dsimp only at euq hSq
        rw [ep] at euq
        subst euq
        refine KJ.eqw (ws' := ((h, .inr (3, [.ref (a 0), .ref (b 0)])) :: (wSt D a (rsz (2 + b339) s) gaq ++ (wSt D b sbq gbq ++ (wSm D m p r (rsz (2 + b339) s) u3))))) rfl ?_
        refine k_iload hC 374 dL_act_374 rfl ?_
        refine n_icmp_ne hC 376 383 dL_act_376 (by decide) (by omega) (by omega) (fun h376 => ?_) (fun h376 => ?_)
        · skip
          exact absurd rfl h376
        · skip
          refine k_iconst hC 379 dL_act_379 (nI 1) (by decide) ?_
          refine k_goto hC 380 384 dL_act_380 (by decide) ?_
          exact k_iret hC hE 384 (rsz (2 + b339) s, gaq, sbq, gbq, u3) dL_act_384 rfl (⟨rfl, ⟨hSq, (rsz_ok hW (by omega) (by omega) h351).1, hJ3, rsz_ij hW (by omega) (by omega) h351⟩, hL3⟩) rfl ⟨Nat.le_of_ble_eq_true rfl, Nat.le_of_ble_eq_true rfl⟩
      · skip
        refine k_iconst hC 354 dL_act_354 (nI 1) (by decide) ?_
        exact k_iret hC hE 355 (s, g, s2, g2, x) dL_act_355 rfl (⟨rfl, hO, Nat.le_refl _⟩) rfl ⟨Nat.zero_le _, Nat.zero_le _⟩
    have cut385 : KJ l G D ({ frames := 9, cells := 2770, slots := 36010, locals := 161 } : Room) 10 0 0 ((h, .inr (3, [.ref (a 0), .ref (b 0)])) :: (wSt D a s g ++ (wSt D b s2 g2 ++ (wSm D m p r s x)))) [(3, .int (nI kd)), (0, .ref h), (1, .ref m), (2, .int zz)] 385 ([]) := by
      skip
      have hpl := hW.pl12
      have hgo := hW.go12
      refine k_aload_n hC 385 dL_act_385 rfl ?_
      refine k_getf hC 386 31 1 dL_act_386 rfl rfl inlX5 (by decide) wq_4_4 rfl ?_
      refine KJ.eqs (st' := .int (nI (goS s)) :: []) rfl ?_
      refine k_istore hC 389 7 [(7, .int (nI (goS s))), (3, .int (nI kd)), (0, .ref h), (1, .ref m), (2, .int zz)] dL_act_389 (by decide) rfl ?_
      refine k_aload_n hC 391 dL_act_391 rfl ?_
      refine k_iload_n hC 392 dL_act_392 rfl ?_
      refine k_iconst hC 393 dL_act_393 (nI 2) (by decide) ?_
      refine k_ishr hC 394 dL_act_394 (KJ.topi (y := (zz >>> ((nI 2) &&& 31))) rfl ?_)
      refine k_aload_n hC 395 dL_act_395 rfl ?_
      refine k_getf hC 396 31 0 dL_act_396 rfl rfl inlX5 (by decide) wq_4_3 rfl ?_
      refine KJ.eqs (st' := .int (nI (plS s)) :: .int (zz >>> ((nI 2) &&& 31)) :: .ref m :: []) rfl ?_
      refine k_iconst hC 399 dL_act_399 (nI 1) (by decide) ?_
      refine n_iadd hC 400 ((plS s) + 1) dL_act_400 rfl ?_
      refine f_callS hC 401 ([]) ((h, .inr (3, [.ref (a 0), .ref (b 0)])) :: (wSt D a s g ++ (wSt D b s2 g2 ++ (wSm D m p r s x)))) (fun (b4 : Nat) => ((h, .inr (3, [.ref (a 0), .ref (b 0)])) :: (wSt D a s g ++ (wSt D b s2 g2 ++ (wSm D m p r s x))))) (c_L_below l D _ (plS s + 1) (by omega) (by omega)) cw_RL_19 dL_act_401 ⟨Nat.le_of_ble_eq_true rfl, Nat.le_of_ble_eq_true rfl, Nat.le_of_ble_eq_true rfl, Nat.le_of_ble_eq_true rfl⟩ rfl (Nat.le_of_ble_eq_true rfl) rfl (fun _ => rfl) (fun _ => rfl) _ rfl (fun v (b4 : Nat) hp => ?_)
      obtain ⟨rfl, hb4⟩ := hp
      refine KJ.eqs (st' := .int (nI b4) :: .ref m :: []) rfl ?_
      refine k_putf hC 404 (ty0 := tyX5) 31 1 ((h, .inr (3, [.ref (a 0), .ref (b 0)])) :: (wSt D a s g ++ (wSt D b s2 g2 ++ (wSm D m p r (goTo s b4) x)))) dL_act_404 rfl rfl inlX5 tyX5_ok nmX5 (by decide) wq_4_4 rfl rfl rfl (Nat.le_of_ble_eq_true rfl) rfl ?_
      refine k_aload_n hC 407 dL_act_407 rfl ?_
      have eg : kn (nI b4) = b4 := kn_nI (by omega)
      have hK0 : setGoalK s (nI b4) = 0 := kK_0 (fun z => z.elim (fun y => nI_pos (by omega) y) (fun y => y ((nI_leI (by omega) (by omega)).mpr (by omega)))) id
      refine k_aload_n hC 408 dL_act_408 rfl ?_
      refine k_getf hC 409 31 1 dL_act_409 rfl rfl inlX5 (by decide) wq_4_4 rfl ?_
      refine KJ.eqs (st' := .int (nI (goS (goTo s b4))) :: .ref h :: []) rfl ?_
      refine KJ.eqs (st' := .int (nI b4) :: .ref h :: []) rfl ?_
      refine g_callV hC hX 412 0 ([]) (wSm D m p r (goTo s b4) x) (fun uq => ((h, .inr (3, [.ref (a 0), .ref (b 0)])) :: (wSt D a uq.1.1 uq.1.2 ++ (wSt D b uq.2.1 uq.2.2 ++ (wSm D m p r (goTo s b4) x))))) (c_X3_setGoal l hfl D h a b s s2 g g2 (nI b4) hS hW) cw_RL_71 dL_act_412 ⟨Nat.le_of_ble_eq_true rfl, Nat.le_of_ble_eq_true rfl, Nat.le_of_ble_eq_true rfl, Nat.le_of_ble_eq_true rfl⟩ rfl (Nat.le_of_ble_eq_true rfl) rfl rfl rfl (by simp only [List.append_assoc, List.cons_append, List.nil_append, List.append_nil]) (fun _ => rfl) (fun _ => by simp only [List.append_assoc, List.cons_append, List.nil_append, List.append_nil]) _ rfl (fun v uq hp => ?_) (fun E hx => absurd hx (no_x hK0))
      obtain ⟨-, rfl, euq, hSq⟩ := hp
      refine KJ.eqs (st' := .int (nI (goS s)) :: []) rfl ?_
      obtain ⟨⟨saq, gaq⟩, sbq, gbq⟩ := uq
      dsimp only at euq hSq
      rw [eg] at euq
      subst euq
      refine KJ.eqw (ws' := ((h, .inr (3, [.ref (a 0), .ref (b 0)])) :: (wSt D a (goTo s b4) gaq ++ (wSt D b sbq gbq ++ (wSm D m p r (goTo s b4) x))))) rfl ?_
      refine k_iload hC 415 dL_act_415 rfl ?_
      refine n_icmp_ne hC 417 424 dL_act_417 (by decide) (by omega) (by omega) (fun h417 => ?_) (fun h417 => ?_)
      · skip
        exact absurd rfl h417
      · skip
        refine k_iconst hC 420 dL_act_420 (nI 1) (by decide) ?_
        refine k_goto hC 421 425 dL_act_421 (by decide) ?_
        exact k_iret hC hE 425 (goTo s b4, gaq, sbq, gbq, x) dL_act_425 rfl (⟨rfl, ⟨hSq, goTo_wf hW (by omega), goTo_J hJ b4, ⟨hI.1, by show b4 ≤ plS s; omega⟩⟩, Nat.le_refl _⟩) rfl ⟨Nat.le_of_ble_eq_true rfl, Nat.le_of_ble_eq_true rfl⟩
    have cut426 : KJ l G D ({ frames := 9, cells := 2770, slots := 36010, locals := 161 } : Room) 10 0 0 ((h, .inr (3, [.ref (a 0), .ref (b 0)])) :: (wSt D a s g ++ (wSt D b s2 g2 ++ (wSm D m p r s x)))) [(3, .int (nI kd)), (0, .ref h), (1, .ref m), (2, .int zz)] 426 ([]) := by
      skip
      refine k_iload_n hC 426 dL_act_426 rfl ?_
      refine k_iconst hC 427 dL_act_427 (nI 3) (by decide) ?_
      refine k_ishr hC 428 dL_act_428 (KJ.topi (y := (zz >>> ((nI 3) &&& 31))) rfl ?_)
      refine k_bipush hC 429 dL_act_429 (nI 40) (by decide) ?_
      refine f_callS hC 431 ([]) ((h, .inr (3, [.ref (a 0), .ref (b 0)])) :: (wSt D a s g ++ (wSt D b s2 g2 ++ (wSm D m p r s x)))) (fun (b431 : Nat) => ((h, .inr (3, [.ref (a 0), .ref (b 0)])) :: (wSt D a s g ++ (wSt D b s2 g2 ++ (wSm D m p r s x))))) (c_L_below l D _ 40 (by decide) (by decide)) cw_RL_19 dL_act_431 ⟨Nat.le_of_ble_eq_true rfl, Nat.le_of_ble_eq_true rfl, Nat.le_of_ble_eq_true rfl, Nat.le_of_ble_eq_true rfl⟩ rfl (Nat.le_of_ble_eq_true rfl) rfl (fun _ => rfl) (fun _ => rfl) _ rfl (fun v (b431 : Nat) hp => ?_)
      obtain ⟨rfl, hb431⟩ := hp
      refine KJ.eqs (st' := .int (nI b431) :: []) rfl ?_
      refine k_istore hC 434 8 [(8, .int (nI b431)), (3, .int (nI kd)), (0, .ref h), (1, .ref m), (2, .int zz)] dL_act_434 (by decide) rfl ?_
      refine k_iconst hC 436 dL_act_436 (nI 1) (by decide) ?_
      refine k_iload_n hC 437 dL_act_437 rfl ?_
      refine k_iconst hC 438 dL_act_438 (nI 4) (by decide) ?_
      refine k_ishr hC 439 dL_act_439 (KJ.topi (y := (zz >>> ((nI 4) &&& 31))) rfl ?_)
      refine k_bipush hC 440 dL_act_440 (nI 30) (by decide) ?_
      refine f_callS hC 442 ([]) ((h, .inr (3, [.ref (a 0), .ref (b 0)])) :: (wSt D a s g ++ (wSt D b s2 g2 ++ (wSm D m p r s x)))) (fun (b442 : Nat) => ((h, .inr (3, [.ref (a 0), .ref (b 0)])) :: (wSt D a s g ++ (wSt D b s2 g2 ++ (wSm D m p r s x))))) (c_L_below l D _ 30 (by decide) (by decide)) cw_RL_19 dL_act_442 ⟨Nat.le_of_ble_eq_true rfl, Nat.le_of_ble_eq_true rfl, Nat.le_of_ble_eq_true rfl, Nat.le_of_ble_eq_true rfl⟩ rfl (Nat.le_of_ble_eq_true rfl) rfl (fun _ => rfl) (fun _ => rfl) _ rfl (fun v (b442 : Nat) hp => ?_)
      obtain ⟨rfl, hb442⟩ := hp
      refine KJ.eqs (st' := .int (nI b442) :: .int (nI 1) :: []) rfl ?_
      refine n_iadd hC 445 (1 + b442) dL_act_445 rfl ?_
      refine k_istore hC 446 9 [(9, .int (nI (1 + b442))), (8, .int (nI b431)), (3, .int (nI kd)), (0, .ref h), (1, .ref m), (2, .int zz)] dL_act_446 (by decide) rfl ?_
      have e1 : kn (nI kd) = kd := ekn
      have e2 : kn (nI b431) = b431 := kn_ek hb431
      have e3 : kn (nI (1 + b442)) = 1 + b442 := kn_nI (by omega)
      have hK0 : serK (nI kd) (nI b431) (nI (1 + b442)) = 0 := kK_0 (not_not_intro (Ck.of hk)) (not_not_intro ⟨Ck.of hb431, fun z => absurd ((nI_ltI (by omega) (by omega)).mp z) (by omega), (nI_leI (by omega) (by omega)).mpr (by omega)⟩)
      have eS : serS s (nI kd) (nI b431) (nI (1 + b442)) = (srs kd b431 (1 + b442) 0 s) := by unfold serS; rw [e1, e2, e3]
      have eV : serV s (nI kd) (nI b431) (nI (1 + b442)) = hiS (srs kd b431 (1 + b442) 0 s) - hiS s := by unfold serV; rw [e1, e2, e3]
      refine k_aload_n hC 448 dL_act_448 rfl ?_
      refine k_iload_n hC 449 dL_act_449 rfl ?_
      refine k_iload hC 450 dL_act_450 rfl ?_
      refine k_iload hC 452 dL_act_452 rfl ?_
      refine g_callV hC hX 454 0 ([]) (wSm D m p r s x) (fun uq => ((h, .inr (3, [.ref (a 0), .ref (b 0)])) :: (wSt D a uq.1.1 uq.1.2 ++ (wSt D b uq.2.1 uq.2.2 ++ (wSm D m p r s x))))) (c_X3_fetchAll l hfl D h a b s s2 g g2 (nI kd) (nI b431) (nI (1 + b442)) hS hW) cw_RL_74 dL_act_454 ⟨Nat.le_of_ble_eq_true rfl, Nat.le_of_ble_eq_true rfl, Nat.le_of_ble_eq_true rfl, Nat.le_of_ble_eq_true rfl⟩ rfl (Nat.le_of_ble_eq_true rfl) rfl rfl rfl (by simp only [List.append_assoc, List.cons_append, List.nil_append, List.append_nil]) (fun _ => rfl) (fun _ => by simp only [List.append_assoc, List.cons_append, List.nil_append, List.append_nil]) _ rfl (fun v uq hp => ?_) (fun E hx => absurd hx (no_x hK0))
      obtain ⟨-, rfl, euq, hSq⟩ := hp
      refine KJ.eqs (st' := .int (serV s (nI kd) (nI b431) (nI (1 + b442))) :: []) rfl ?_
      refine KJ.topi (y := (hiS (srs kd b431 (1 + b442) 0 s) - hiS s)) eV ?_
      obtain ⟨⟨saq, gaq⟩, sbq, gbq⟩ := uq
      dsimp only at euq hSq
      rw [eS] at euq
      subst euq
      refine KJ.eqw (ws' := ((h, .inr (3, [.ref (a 0), .ref (b 0)])) :: (wSt D a (srs kd b431 (1 + b442) 0 s) gaq ++ (wSt D b sbq gbq ++ (wSm D m p r s x))))) rfl ?_
      refine k_aload_n hC 457 dL_act_457 rfl ?_
      refine k_iload_n hC 458 dL_act_458 rfl ?_
      refine k_iload hC 459 dL_act_459 rfl ?_
      refine k_iload hC 461 dL_act_461 rfl ?_
      refine fp_callVe hC 463 31 ((h, .inr (3, [.ref (a 0), .ref (b 0)])) :: (wSt D a (srs kd b431 (1 + b442) 0 s) gaq ++ wSt D b sbq gbq)) (fun u3 => ((h, .inr (3, [.ref (a 0), .ref (b 0)])) :: (wSt D a (srs kd b431 (1 + b442) 0 s) gaq ++ (wSt D b sbq gbq ++ (wSm D m p r (srs kd b431 (1 + b442) 0 s) u3))))) (f_sim_fetchAll l D m p r s x kd b431 (1 + b442) hW hJ hI hk hb431 (by omega)) cw_RL_78 dL_act_463 ⟨Nat.le_of_ble_eq_true rfl, Nat.le_of_ble_eq_true rfl, Nat.le_of_ble_eq_true rfl, Nat.le_of_ble_eq_true rfl⟩ rfl (Nat.le_of_ble_eq_true rfl) rfl rfl rfl (by simp only [List.append_assoc, List.cons_append, List.nil_append, List.append_nil]) (fun _ u hp => wSm_le hp.2.2) (fun _ => by simp only [List.append_assoc, List.cons_append, List.nil_append, List.append_nil]) _ rfl (fun v u3 hp => ?_)
      obtain ⟨rfl, hJ3, hL3⟩ := hp
      refine KJ.eqs (st' := .int (hiS (srs kd b431 (1 + b442) 0 s) - hiS s) :: .int (hiS (srs kd b431 (1 + b442) 0 s) - hiS s) :: []) rfl ?_
      refine k_icmp_ne hC 466 473 dL_act_466 (by decide) (fun h466 => ?_) (fun h466 => ?_)
      · skip
        exact absurd rfl h466
      · skip
        refine k_iconst hC 469 dL_act_469 (nI 1) (by decide) ?_
        refine k_goto hC 470 474 dL_act_470 (by decide) ?_
        exact k_iret hC hE 474 ((srs kd b431 (1 + b442) 0 s), gaq, sbq, gbq, u3) dL_act_474 rfl (⟨rfl, ⟨hSq, srs_wf _ _ _ hW, hJ3, srs_ij _ _ _ hW hI⟩, hL3⟩) rfl ⟨Nat.le_of_ble_eq_true rfl, Nat.le_of_ble_eq_true rfl⟩
    have cut475 : KJ l G D ({ frames := 9, cells := 2770, slots := 36010, locals := 161 } : Room) 10 0 0 ((h, .inr (3, [.ref (a 0), .ref (b 0)])) :: (wSt D a s g ++ (wSt D b s2 g2 ++ (wSm D m p r s x)))) [(3, .int (nI kd)), (0, .ref h), (1, .ref m), (2, .int zz)] 475 ([]) := by
      skip
      refine k_aload_n hC 475 dL_act_475 rfl ?_
      refine k_iload_n hC 476 dL_act_476 rfl ?_
      refine hf_callS (n := 2) hC hX 477 [] (wSm D m p r s x) (fun u => ((h, .inr (3, [.ref (a 0), .ref (b 0)])) :: (wSt D a u.1.1 u.1.2 ++ (wSt D b u.2.1 u.2.2 ++ (wSm D m p r s x))))) (h_fetch l hfl D h a b s s2 g g2 kd hS hW hk) wq_13_11 wq_13_12 wq_2_23 wq_13_13 ⟨by decide, by decide, by decide +kernel⟩ dL_act_477 ⟨Nat.le_of_ble_eq_true rfl, Nat.le_of_ble_eq_true rfl, Nat.le_of_ble_eq_true rfl, Nat.le_of_ble_eq_true rfl⟩ rfl (Nat.le_of_ble_eq_true rfl) (by simp only [List.append_assoc, List.cons_append, List.nil_append]) (fun _ => rfl) (fun _ => by simp only [List.append_assoc, List.cons_append, List.nil_append]) _ rfl (fun v u hp => ?_)
      obtain ⟨rfl, eu, hSu⟩ := hp
      refine KJ.eqs (st' := .int (ocI (oc s kd)) :: []) rfl ?_
      obtain ⟨⟨saq, gaq⟩, sbq, gbq⟩ := u
      dsimp only at eu hSu
      subst eu
      refine KJ.eqw (ws' := ((h, .inr (3, [.ref (a 0), .ref (b 0)])) :: (wSt D a (br s kd) gaq ++ (wSt D b sbq gbq ++ (wSm D m p r s x))))) rfl ?_
      refine k_aload_n hC 480 dL_act_480 rfl ?_
      refine k_iload_n hC 481 dL_act_481 rfl ?_
      refine fp_callVe hC 482 31 ((h, .inr (3, [.ref (a 0), .ref (b 0)])) :: (wSt D a (br s kd) gaq ++ wSt D b sbq gbq)) (fun u3 => ((h, .inr (3, [.ref (a 0), .ref (b 0)])) :: (wSt D a (br s kd) gaq ++ (wSt D b sbq gbq ++ (wSm D m p r (br s kd) u3))))) (f_sim_fetch l D m p r s x kd hW hJ hI hk) cw_RL_82 dL_act_482 ⟨Nat.le_of_ble_eq_true rfl, Nat.le_of_ble_eq_true rfl, Nat.le_of_ble_eq_true rfl, Nat.le_of_ble_eq_true rfl⟩ rfl (Nat.le_of_ble_eq_true rfl) rfl rfl rfl (by simp only [List.append_assoc, List.cons_append, List.nil_append, List.append_nil]) (fun _ u hp => wSm_le hp.2.2) (fun _ => by simp only [List.append_assoc, List.cons_append, List.nil_append, List.append_nil]) _ rfl (fun v u3 hp => ?_)
      obtain ⟨rfl, hJ3, hL3⟩ := hp
      refine KJ.eqs (st' := .int (ocI (oc s kd)) :: .int (ocI (oc s kd)) :: []) rfl ?_
      refine k_icmp_ne hC 485 492 dL_act_485 (by decide) (fun h485 => ?_) (fun h485 => ?_)
      · skip
        exact absurd rfl h485
      · skip
        refine k_iconst hC 488 dL_act_488 (nI 1) (by decide) ?_
        refine k_goto hC 489 493 dL_act_489 (by decide) ?_
        exact k_iret hC hE 493 (br s kd, gaq, sbq, gbq, u3) dL_act_493 rfl (⟨rfl, ⟨hSu, br_wf hW hk, hJ3, br_ij hW _ hI⟩, hL3⟩) rfl ⟨Nat.le_of_ble_eq_true rfl, Nat.le_of_ble_eq_true rfl⟩
    have cut182 : ∀ kd2 : Nat, kd2 < 40 → KJ l G D ({ frames := 9, cells := 2770, slots := 36010, locals := 161 } : Room) 10 0 0 ((h, .inr (3, [.ref (a 0), .ref (b 0)])) :: (wSt D a s g ++ (wSt D b s2 g2 ++ (wSm D m p r s x)))) [(4, fV s x kd2), (3, .int (nI kd2)), (0, .ref h), (1, .ref m), (2, .int zz)] 182 ([]) := by
      intro kd2 hk2
      have hp92 := hW.p9S kd2
      by_cases hin2 : inn s kd2
      · skip
        refine KJ.eql (lv' := [(4, .ref (xA x kd2)), (3, .int (nI kd2)), (0, .ref h), (1, .ref m), (2, .int zz)]) (by rw [fV_in hin2]) ?_
        refine k_aload hC 182 dL_act_182 rfl ?_
        refine k_ifnull hC 184 dL_act_184 ?_
        refine k_aload hC 187 dL_act_187 rfl ?_
        refine m_getf hC 189 2 dL_act_189 (List.mem_cons_of_mem _ (List.mem_append_right _ (List.mem_append_right _ ((jm hJ hin2))))) rfl inlX4 (by decide) wq_4_0 rfl ?_
        refine n_if_ne hC 192 197 dL_act_192 (by decide) (by omega) (fun h192 => ?_) (fun h192 => ?_)
        · skip
          refine k_aload hC 197 dL_act_197 rfl ?_
          refine k_dup hC 199 dL_act_199 rfl ?_
          refine m_getf hC 200 2 dL_act_200 (List.mem_cons_of_mem _ (List.mem_append_right _ (List.mem_append_right _ ((jm hJ hin2))))) rfl inlX4 (by decide) wq_4_0 rfl ?_
          refine k_iconst hC 203 dL_act_203 (nI 1) (by decide) ?_
          refine n_isub hC 204 ((piS s kd2) - 1) dL_act_204 (by omega) rfl ?_
          refine q_pins (m := m) (p := p) (r := r) hC 205 ((h, .inr (3, [.ref (a 0), .ref (b 0)])) :: (wSt D a s g ++ wSt D b s2 g2)) ((h, .inr (3, [.ref (a 0), .ref (b 0)])) :: (wSt D a s g ++ (wSt D b s2 g2 ++ (wSm D m p r (upPi s kd2 (piS s kd2 - 1)) (xPin s x kd2 (piS s kd2 - 1)))))) hW hJ hin2 dL_act_205 wq_4_0 (by simp only [List.append_assoc, List.cons_append, List.nil_append]) (by simp only [List.append_assoc, List.cons_append, List.nil_append]) (fun hJ1 => ?_)
          have ek2 : kn (nI kd2) = kd2 := kn_ek hk2
          have hK0 : unpinK s (nI kd2) = 0 := kK_0 (not_not_intro (Ck.of hk2)) (by rw [ek2]; exact fun z => z.elim (fun y => y hin2) (fun y => by omega))
          refine k_aload_n hC 208 dL_act_208 rfl ?_
          refine k_iload_n hC 209 dL_act_209 rfl ?_
          refine g_callV hC hX 210 0 ([]) (wSm D m p r (upPi s kd2 (piS s kd2 - 1)) (xPin s x kd2 (piS s kd2 - 1))) (fun uq => ((h, .inr (3, [.ref (a 0), .ref (b 0)])) :: (wSt D a uq.1.1 uq.1.2 ++ (wSt D b uq.2.1 uq.2.2 ++ (wSm D m p r (upPi s kd2 (piS s kd2 - 1)) (xPin s x kd2 (piS s kd2 - 1))))))) (c_X3_unpin l hfl D h a b s s2 g g2 (nI kd2) hS hW) cw_RL_38 dL_act_210 ⟨Nat.le_of_ble_eq_true rfl, Nat.le_of_ble_eq_true rfl, Nat.le_of_ble_eq_true rfl, Nat.le_of_ble_eq_true rfl⟩ rfl (Nat.le_of_ble_eq_true rfl) rfl rfl rfl (by simp only [List.append_assoc, List.cons_append, List.nil_append, List.append_nil]) (fun _ => rfl) (fun _ => by simp only [List.append_assoc, List.cons_append, List.nil_append, List.append_nil]) _ rfl (fun v uq hp => ?_) (fun E hx => absurd hx (no_x hK0))
          obtain ⟨-, rfl, euq, hSq⟩ := hp
          refine KJ.eqs (st' := .int (nI (piS s (kn (nI kd2)) - 1)) :: []) rfl ?_
          refine KJ.topi (y := (nI (piS s kd2 - 1))) (by rw [ek2]) ?_
          obtain ⟨⟨saq, gaq⟩, sbq, gbq⟩ := uq
          dsimp only at euq hSq
          rw [ek2] at euq
          subst euq
          refine KJ.eqw (ws' := ((h, .inr (3, [.ref (a 0), .ref (b 0)])) :: (wSt D a (upPi s kd2 (piS s kd2 - 1)) gaq ++ (wSt D b sbq gbq ++ (wSm D m p r (upPi s kd2 (piS s kd2 - 1)) (xPin s x kd2 (piS s kd2 - 1))))))) rfl ?_
          refine k_aload hC 213 dL_act_213 rfl ?_
          refine m_getf hC 215 2 dL_act_215 (List.mem_cons_of_mem _ (List.mem_append_right _ (List.mem_append_right _ ((jm hJ1 hin2))))) rfl inlX4 (by decide) wq_4_0 rfl ?_
          refine KJ.topi (y := nI (piS s kd2 - 1)) (congrArg nI (va_up_self _ _ _)) ?_
          refine n_icmp_ne hC 218 225 dL_act_218 (by decide) (by omega) (by omega) (fun h218 => ?_) (fun h218 => ?_)
          · skip
            exact absurd rfl h218
          · skip
            refine k_iconst hC 221 dL_act_221 (nI 1) (by decide) ?_
            refine k_goto hC 222 226 dL_act_222 (by decide) ?_
            exact k_iret hC hE 226 (upPi s kd2 (piS s kd2 - 1), gaq, sbq, gbq, xPin s x kd2 (piS s kd2 - 1)) dL_act_226 rfl (⟨rfl, ⟨hSq, upPi_wf hW (by omega), hJ1, hI⟩, Nat.le_refl _⟩) rfl ⟨Nat.le_of_ble_eq_true rfl, Nat.le_of_ble_eq_true rfl⟩
        · skip
          refine k_iconst hC 195 dL_act_195 (nI 1) (by decide) ?_
          exact k_iret hC hE 196 (s, g, s2, g2, x) dL_act_196 rfl (⟨rfl, hO, Nat.le_refl _⟩) rfl ⟨Nat.zero_le _, Nat.zero_le _⟩
      · skip
        refine KJ.eql (lv' := [(4, .null), (3, .int (nI kd2)), (0, .ref h), (1, .ref m), (2, .int zz)]) (by rw [fV_no hin2]) ?_
        refine k_aloadN hC 182 dL_act_182 rfl ?_
        refine k_ifnullN hC 184 195 dL_act_184 (by decide) ?_
        refine k_iconst hC 195 dL_act_195 (nI 1) (by decide) ?_
        exact k_iret hC hE 196 (s, g, s2, g2, x) dL_act_196 rfl (⟨rfl, hO, Nat.le_refl _⟩) rfl ⟨Nat.zero_le _, Nat.zero_le _⟩
    have loop142 : ∀ (nn142 : Nat) (i kd2 : Nat), 40 - i < nn142 → i ≤ 40 → kd2 < 40 → KJ l G D ({ frames := 9, cells := 2770, slots := 36010, locals := 161 } : Room) 10 0 0 ((h, .inr (3, [.ref (a 0), .ref (b 0)])) :: (wSt D a s g ++ (wSt D b s2 g2 ++ (wSm D m p r s x)))) [(5, .int (nI i)), (4, fV s x kd2), (3, .int (nI kd2)), (0, .ref h), (1, .ref m), (2, .int zz)] 142 ([]) := by
      intro nn142
      induction nn142 with
      | zero => intro i kd2 h; exact absurd h (Nat.not_lt_zero _)
      | succ nn142 ih142 =>
        intro i kd2 hn142 hi4 hk2
        have hp92 := hW.p9S kd2
        refine k_iload hC 142 dL_act_142 rfl ?_
        refine k_bipush hC 144 dL_act_144 (nI 40) (by decide) ?_
        refine n_icmp_ge hC 146 182 dL_act_146 (by decide) (by omega) (by omega) (fun h146 => ?_) (fun h146 => ?_)
        · skip
          refine KJ.lvp [1, 2, 3, 4, 5] rfl ?_
          exact cut182 kd2 hk2
        · skip
          by_cases hin2 : inn s kd2
          · skip
            refine KJ.eql (lv' := [(5, .int (nI i)), (4, .ref (xA x kd2)), (3, .int (nI kd2)), (0, .ref h), (1, .ref m), (2, .int zz)]) (by rw [fV_in hin2]) ?_
            refine k_aload hC 149 dL_act_149 rfl ?_
            refine k_ifnull hC 151 dL_act_151 ?_
            refine k_aload hC 154 dL_act_154 rfl ?_
            refine m_getf hC 156 2 dL_act_156 (List.mem_cons_of_mem _ (List.mem_append_right _ (List.mem_append_right _ ((jm hJ hin2))))) rfl inlX4 (by decide) wq_4_0 rfl ?_
            refine n_if_ne hC 159 182 dL_act_159 (by decide) (by omega) (fun h159 => ?_) (fun h159 => ?_)
            · skip
              refine KJ.eql (lv' := [(5, .int (nI i)), (4, fV s x kd2), (3, .int (nI kd2)), (0, .ref h), (1, .ref m), (2, .int zz)]) (by rw [fV_in hin2]) ?_
              refine KJ.lvp [1, 2, 3, 4, 5] rfl ?_
              exact cut182 kd2 hk2
            · skip
              refine k_iload_n hC 162 dL_act_162 rfl ?_
              refine k_iconst hC 163 dL_act_163 (nI 1) (by decide) ?_
              refine n_iadd hC 164 (kd2 + 1) dL_act_164 rfl ?_
              refine k_bipush hC 165 dL_act_165 (nI 40) (by decide) ?_
              refine k_irem hC 167 dL_act_167 (by decide) (KJ.topi (y := (nI ((kd2 + 1) % 40))) (pk_rem (by omega) (by decide) (by decide)) ?_)
              refine k_istore_n hC 168 3 [(3, .int (nI ((kd2 + 1) % 40))), (5, .int (nI i)), (4, .ref (xA x kd2)), (0, .ref h), (1, .ref m), (2, .int zz)] dL_act_168 rfl (by decide) rfl ?_
              refine k_aload_n hC 169 dL_act_169 rfl ?_
              refine k_iload_n hC 170 dL_act_170 rfl ?_
              have hk3 : (kd2 + 1) % 40 < 40 := Nat.mod_lt _ (by decide)
              by_cases hin3 : inn s ((kd2 + 1) % 40)
              · skip
                refine f_callVe hC 171 31 ((h, .inr (3, [.ref (a 0), .ref (b 0)])) :: (wSt D a s g ++ wSt D b s2 g2)) (fun u => ((h, .inr (3, [.ref (a 0), .ref (b 0)])) :: (wSt D a s g ++ (wSt D b s2 g2 ++ (wSm D m p r s x))))) (f_find_in l D m p r s x ((kd2 + 1) % 40) hW hJ hk3 hin3) cw_RL_25 dL_act_171 ⟨Nat.le_of_ble_eq_true rfl, Nat.le_of_ble_eq_true rfl, Nat.le_of_ble_eq_true rfl, Nat.le_of_ble_eq_true rfl⟩ rfl (Nat.le_of_ble_eq_true rfl) rfl rfl rfl (by simp only [List.append_assoc, List.cons_append, List.nil_append, List.append_nil]) (fun _ => Nat.le_refl _) (fun _ => by simp only [List.append_assoc, List.cons_append, List.nil_append, List.append_nil]) _ rfl (fun v u hp => ?_)
                obtain rfl := hp
                refine KJ.eqs (st' := .ref (xA x ((kd2 + 1) % 40)) :: []) rfl ?_
                refine k_astore hC 174 4 [(4, .ref (xA x ((kd2 + 1) % 40))), (3, .int (nI ((kd2 + 1) % 40))), (5, .int (nI i)), (0, .ref h), (1, .ref m), (2, .int zz)] dL_act_174 (by decide) rfl ?_
                refine k_iinc hC 176 2 (nI (i + 1)) [(5, .int (nI (i + 1))), (4, .ref (xA x ((kd2 + 1) % 40))), (3, .int (nI ((kd2 + 1) % 40))), (0, .ref h), (1, .ref m), (2, .int zz)] dL_act_176 rfl (nI_1 _) (by decide) rfl ?_
                refine k_goto hC 179 142 dL_act_179 (by decide) ?_
                refine KJ.eql (lv' := [(5, .int (nI (i + 1))), (4, fV s x ((kd2 + 1) % 40)), (3, .int (nI ((kd2 + 1) % 40))), (0, .ref h), (1, .ref m), (2, .int zz)]) (by rw [fV_in hin3]) ?_
                exact ih142 (i + 1) ((kd2 + 1) % 40) (by omega) (by omega) hk3
              · skip
                refine f_callVe hC 171 31 ((h, .inr (3, [.ref (a 0), .ref (b 0)])) :: (wSt D a s g ++ wSt D b s2 g2)) (fun u => ((h, .inr (3, [.ref (a 0), .ref (b 0)])) :: (wSt D a s g ++ (wSt D b s2 g2 ++ (wSm D m p r s x))))) (f_find_no l D m p r s x ((kd2 + 1) % 40) hW hJ hk3 hin3) cw_RL_25 dL_act_171 ⟨Nat.le_of_ble_eq_true rfl, Nat.le_of_ble_eq_true rfl, Nat.le_of_ble_eq_true rfl, Nat.le_of_ble_eq_true rfl⟩ rfl (Nat.le_of_ble_eq_true rfl) rfl rfl rfl (by simp only [List.append_assoc, List.cons_append, List.nil_append, List.append_nil]) (fun _ => Nat.le_refl _) (fun _ => by simp only [List.append_assoc, List.cons_append, List.nil_append, List.append_nil]) _ rfl (fun v u hp => ?_)
                obtain rfl := hp
                refine KJ.eqs (st' := .null :: []) rfl ?_
                refine k_astoreN hC 174 4 [(4, .null), (3, .int (nI ((kd2 + 1) % 40))), (5, .int (nI i)), (0, .ref h), (1, .ref m), (2, .int zz)] dL_act_174 (by decide) rfl ?_
                refine k_iinc hC 176 2 (nI (i + 1)) [(5, .int (nI (i + 1))), (4, .null), (3, .int (nI ((kd2 + 1) % 40))), (0, .ref h), (1, .ref m), (2, .int zz)] dL_act_176 rfl (nI_1 _) (by decide) rfl ?_
                refine k_goto hC 179 142 dL_act_179 (by decide) ?_
                refine KJ.eql (lv' := [(5, .int (nI (i + 1))), (4, fV s x ((kd2 + 1) % 40)), (3, .int (nI ((kd2 + 1) % 40))), (0, .ref h), (1, .ref m), (2, .int zz)]) (by rw [fV_no hin3]) ?_
                exact ih142 (i + 1) ((kd2 + 1) % 40) (by omega) (by omega) hk3
          · skip
            refine KJ.eql (lv' := [(5, .int (nI i)), (4, .null), (3, .int (nI kd2)), (0, .ref h), (1, .ref m), (2, .int zz)]) (by rw [fV_no hin2]) ?_
            refine k_aloadN hC 149 dL_act_149 rfl ?_
            refine k_ifnullN hC 151 162 dL_act_151 (by decide) ?_
            refine k_iload_n hC 162 dL_act_162 rfl ?_
            refine k_iconst hC 163 dL_act_163 (nI 1) (by decide) ?_
            refine n_iadd hC 164 (kd2 + 1) dL_act_164 rfl ?_
            refine k_bipush hC 165 dL_act_165 (nI 40) (by decide) ?_
            refine k_irem hC 167 dL_act_167 (by decide) (KJ.topi (y := (nI ((kd2 + 1) % 40))) (pk_rem (by omega) (by decide) (by decide)) ?_)
            refine k_istore_n hC 168 3 [(3, .int (nI ((kd2 + 1) % 40))), (5, .int (nI i)), (4, .null), (0, .ref h), (1, .ref m), (2, .int zz)] dL_act_168 rfl (by decide) rfl ?_
            refine k_aload_n hC 169 dL_act_169 rfl ?_
            refine k_iload_n hC 170 dL_act_170 rfl ?_
            have hk3 : (kd2 + 1) % 40 < 40 := Nat.mod_lt _ (by decide)
            by_cases hin3 : inn s ((kd2 + 1) % 40)
            · skip
              refine f_callVe hC 171 31 ((h, .inr (3, [.ref (a 0), .ref (b 0)])) :: (wSt D a s g ++ wSt D b s2 g2)) (fun u => ((h, .inr (3, [.ref (a 0), .ref (b 0)])) :: (wSt D a s g ++ (wSt D b s2 g2 ++ (wSm D m p r s x))))) (f_find_in l D m p r s x ((kd2 + 1) % 40) hW hJ hk3 hin3) cw_RL_25 dL_act_171 ⟨Nat.le_of_ble_eq_true rfl, Nat.le_of_ble_eq_true rfl, Nat.le_of_ble_eq_true rfl, Nat.le_of_ble_eq_true rfl⟩ rfl (Nat.le_of_ble_eq_true rfl) rfl rfl rfl (by simp only [List.append_assoc, List.cons_append, List.nil_append, List.append_nil]) (fun _ => Nat.le_refl _) (fun _ => by simp only [List.append_assoc, List.cons_append, List.nil_append, List.append_nil]) _ rfl (fun v u hp => ?_)
              obtain rfl := hp
              refine KJ.eqs (st' := .ref (xA x ((kd2 + 1) % 40)) :: []) rfl ?_
              refine k_astore hC 174 4 [(4, .ref (xA x ((kd2 + 1) % 40))), (3, .int (nI ((kd2 + 1) % 40))), (5, .int (nI i)), (0, .ref h), (1, .ref m), (2, .int zz)] dL_act_174 (by decide) rfl ?_
              refine k_iinc hC 176 2 (nI (i + 1)) [(5, .int (nI (i + 1))), (4, .ref (xA x ((kd2 + 1) % 40))), (3, .int (nI ((kd2 + 1) % 40))), (0, .ref h), (1, .ref m), (2, .int zz)] dL_act_176 rfl (nI_1 _) (by decide) rfl ?_
              refine k_goto hC 179 142 dL_act_179 (by decide) ?_
              refine KJ.eql (lv' := [(5, .int (nI (i + 1))), (4, fV s x ((kd2 + 1) % 40)), (3, .int (nI ((kd2 + 1) % 40))), (0, .ref h), (1, .ref m), (2, .int zz)]) (by rw [fV_in hin3]) ?_
              exact ih142 (i + 1) ((kd2 + 1) % 40) (by omega) (by omega) hk3
            · skip
              refine f_callVe hC 171 31 ((h, .inr (3, [.ref (a 0), .ref (b 0)])) :: (wSt D a s g ++ wSt D b s2 g2)) (fun u => ((h, .inr (3, [.ref (a 0), .ref (b 0)])) :: (wSt D a s g ++ (wSt D b s2 g2 ++ (wSm D m p r s x))))) (f_find_no l D m p r s x ((kd2 + 1) % 40) hW hJ hk3 hin3) cw_RL_25 dL_act_171 ⟨Nat.le_of_ble_eq_true rfl, Nat.le_of_ble_eq_true rfl, Nat.le_of_ble_eq_true rfl, Nat.le_of_ble_eq_true rfl⟩ rfl (Nat.le_of_ble_eq_true rfl) rfl rfl rfl (by simp only [List.append_assoc, List.cons_append, List.nil_append, List.append_nil]) (fun _ => Nat.le_refl _) (fun _ => by simp only [List.append_assoc, List.cons_append, List.nil_append, List.append_nil]) _ rfl (fun v u hp => ?_)
              obtain rfl := hp
              refine KJ.eqs (st' := .null :: []) rfl ?_
              refine k_astoreN hC 174 4 [(4, .null), (3, .int (nI ((kd2 + 1) % 40))), (5, .int (nI i)), (0, .ref h), (1, .ref m), (2, .int zz)] dL_act_174 (by decide) rfl ?_
              refine k_iinc hC 176 2 (nI (i + 1)) [(5, .int (nI (i + 1))), (4, .null), (3, .int (nI ((kd2 + 1) % 40))), (0, .ref h), (1, .ref m), (2, .int zz)] dL_act_176 rfl (nI_1 _) (by decide) rfl ?_
              refine k_goto hC 179 142 dL_act_179 (by decide) ?_
              refine KJ.eql (lv' := [(5, .int (nI (i + 1))), (4, fV s x ((kd2 + 1) % 40)), (3, .int (nI ((kd2 + 1) % 40))), (0, .ref h), (1, .ref m), (2, .int zz)]) (by rw [fV_no hin3]) ?_
              exact ih142 (i + 1) ((kd2 + 1) % 40) (by omega) (by omega) hk3
    have cut142 := loop142
    by_cases hin : inn s kd
    · skip
      refine k_istore_n hC 23 3 [(3, .int (nI kd)), (0, .ref h), (1, .ref m), (2, .int zz)] dL_act_23 rfl (by decide) rfl ?_
      refine k_aload_n hC 24 dL_act_24 rfl ?_
      refine k_iload_n hC 25 dL_act_25 rfl ?_
      refine f_callVe hC 26 31 ((h, .inr (3, [.ref (a 0), .ref (b 0)])) :: (wSt D a s g ++ wSt D b s2 g2)) (fun u => ((h, .inr (3, [.ref (a 0), .ref (b 0)])) :: (wSt D a s g ++ (wSt D b s2 g2 ++ (wSm D m p r s x))))) (f_find_in l D m p r s x kd hW hJ hk hin) cw_RL_25 dL_act_26 ⟨Nat.le_of_ble_eq_true rfl, Nat.le_of_ble_eq_true rfl, Nat.le_of_ble_eq_true rfl, Nat.le_of_ble_eq_true rfl⟩ rfl (Nat.le_of_ble_eq_true rfl) rfl rfl rfl (by simp only [List.append_assoc, List.cons_append, List.nil_append, List.append_nil]) (fun _ => Nat.le_refl _) (fun _ => by simp only [List.append_assoc, List.cons_append, List.nil_append, List.append_nil]) _ rfl (fun v u hp => ?_)
      obtain rfl := hp
      refine KJ.eqs (st' := .ref (xA x kd) :: []) rfl ?_
      refine k_astore hC 29 4 [(4, .ref (xA x kd)), (3, .int (nI kd)), (0, .ref h), (1, .ref m), (2, .int zz)] dL_act_29 (by decide) rfl ?_
      refine k_iload_n hC 31 dL_act_31 rfl ?_
      refine k_bipush hC 32 dL_act_32 (nI 9) (by decide) ?_
      refine k_ishr hC 34 dL_act_34 (KJ.topi (y := (zz >>> ((nI 9) &&& 31))) rfl ?_)
      refine k_bipush hC 35 dL_act_35 (nI 22) (by decide) ?_
      refine f_callS hC 37 ([]) ((h, .inr (3, [.ref (a 0), .ref (b 0)])) :: (wSt D a s g ++ (wSt D b s2 g2 ++ (wSm D m p r s x)))) (fun (b37 : Nat) => ((h, .inr (3, [.ref (a 0), .ref (b 0)])) :: (wSt D a s g ++ (wSt D b s2 g2 ++ (wSm D m p r s x))))) (c_L_below l D _ 22 (by decide) (by decide)) cw_RL_19 dL_act_37 ⟨Nat.le_of_ble_eq_true rfl, Nat.le_of_ble_eq_true rfl, Nat.le_of_ble_eq_true rfl, Nat.le_of_ble_eq_true rfl⟩ rfl (Nat.le_of_ble_eq_true rfl) rfl (fun _ => rfl) (fun _ => rfl) _ rfl (fun v (b37 : Nat) hp => ?_)
      obtain ⟨rfl, hb37⟩ := hp
      refine KJ.eqs (st' := .int (nI b37) :: []) rfl ?_
      rcases (show b37 = 0 ∨ b37 = 1 ∨ b37 = 2 ∨ b37 = 3 ∨ b37 = 4 ∨ b37 = 5 ∨ b37 = 6 ∨ b37 = 7 ∨ b37 = 8 ∨ 8 < b37 by omega) with rfl | rfl | rfl | rfl | rfl | rfl | rfl | rfl | rfl | hb8
      · skip
        refine k_tableIn hC 40 92 dL_act_40 (by decide) (by decide) rfl (by decide) ?_
        refine k_aload hC 92 dL_act_92 rfl ?_
        refine k_ifnull hC 94 dL_act_94 ?_
        refine k_aload hC 97 dL_act_97 rfl ?_
        refine m_getf hC 99 2 dL_act_99 (List.mem_cons_of_mem _ (List.mem_append_right _ (List.mem_append_right _ ((jm hJ hin))))) rfl inlX4 (by decide) wq_4_0 rfl ?_
        refine k_bipush hC 102 dL_act_102 (nI 9) (by decide) ?_
        refine n_icmp_ne hC 104 109 dL_act_104 (by decide) (by omega) (by omega) (fun h104 => ?_) (fun h104 => ?_)
        · skip
          refine k_aload hC 109 dL_act_109 rfl ?_
          refine k_dup hC 111 dL_act_111 rfl ?_
          refine m_getf hC 112 2 dL_act_112 (List.mem_cons_of_mem _ (List.mem_append_right _ (List.mem_append_right _ ((jm hJ hin))))) rfl inlX4 (by decide) wq_4_0 rfl ?_
          refine k_iconst hC 115 dL_act_115 (nI 1) (by decide) ?_
          refine n_iadd hC 116 ((piS s kd) + 1) dL_act_116 rfl ?_
          refine q_pins (m := m) (p := p) (r := r) hC 117 ((h, .inr (3, [.ref (a 0), .ref (b 0)])) :: (wSt D a s g ++ wSt D b s2 g2)) ((h, .inr (3, [.ref (a 0), .ref (b 0)])) :: (wSt D a s g ++ (wSt D b s2 g2 ++ (wSm D m p r (upPi s kd (piS s kd + 1)) (xPin s x kd (piS s kd + 1)))))) hW hJ hin dL_act_117 wq_4_0 (by simp only [List.append_assoc, List.cons_append, List.nil_append]) (by simp only [List.append_assoc, List.cons_append, List.nil_append]) (fun hJ1 => ?_)
          have ek2 : kn (nI kd) = kd := kn_ek hk
          have hK0 : pinK s (nI kd) = 0 := kK_0 (not_not_intro (Ck.of hk)) (by rw [ek2]; exact fun z => z.elim (fun y => y hin) (fun y => by omega))
          refine k_aload_n hC 120 dL_act_120 rfl ?_
          refine k_iload_n hC 121 dL_act_121 rfl ?_
          refine g_callV hC hX 122 0 ([]) (wSm D m p r (upPi s kd (piS s kd + 1)) (xPin s x kd (piS s kd + 1))) (fun uq => ((h, .inr (3, [.ref (a 0), .ref (b 0)])) :: (wSt D a uq.1.1 uq.1.2 ++ (wSt D b uq.2.1 uq.2.2 ++ (wSm D m p r (upPi s kd (piS s kd + 1)) (xPin s x kd (piS s kd + 1))))))) (c_X3_pin l hfl D h a b s s2 g g2 (nI kd) hS hW) cw_RL_35 dL_act_122 ⟨Nat.le_of_ble_eq_true rfl, Nat.le_of_ble_eq_true rfl, Nat.le_of_ble_eq_true rfl, Nat.le_of_ble_eq_true rfl⟩ rfl (Nat.le_of_ble_eq_true rfl) rfl rfl rfl (by simp only [List.append_assoc, List.cons_append, List.nil_append, List.append_nil]) (fun _ => rfl) (fun _ => by simp only [List.append_assoc, List.cons_append, List.nil_append, List.append_nil]) _ rfl (fun v uq hp => ?_) (fun E hx => absurd hx (no_x hK0))
          obtain ⟨-, rfl, euq, hSq⟩ := hp
          refine KJ.eqs (st' := .int (nI (piS s (kn (nI kd)) + 1)) :: []) rfl ?_
          refine KJ.topi (y := (nI (piS s kd + 1))) (by rw [ek2]) ?_
          obtain ⟨⟨saq, gaq⟩, sbq, gbq⟩ := uq
          dsimp only at euq hSq
          rw [ek2] at euq
          subst euq
          refine KJ.eqw (ws' := ((h, .inr (3, [.ref (a 0), .ref (b 0)])) :: (wSt D a (upPi s kd (piS s kd + 1)) gaq ++ (wSt D b sbq gbq ++ (wSm D m p r (upPi s kd (piS s kd + 1)) (xPin s x kd (piS s kd + 1))))))) rfl ?_
          refine k_aload hC 125 dL_act_125 rfl ?_
          refine m_getf hC 127 2 dL_act_127 (List.mem_cons_of_mem _ (List.mem_append_right _ (List.mem_append_right _ ((jm hJ1 hin))))) rfl inlX4 (by decide) wq_4_0 rfl ?_
          refine KJ.topi (y := nI (piS s kd + 1)) (congrArg nI (va_up_self _ _ _)) ?_
          refine n_icmp_ne hC 130 137 dL_act_130 (by decide) (by omega) (by omega) (fun h130 => ?_) (fun h130 => ?_)
          · skip
            exact absurd rfl h130
          · skip
            refine k_iconst hC 133 dL_act_133 (nI 1) (by decide) ?_
            refine k_goto hC 134 138 dL_act_134 (by decide) ?_
            exact k_iret hC hE 138 (upPi s kd (piS s kd + 1), gaq, sbq, gbq, xPin s x kd (piS s kd + 1)) dL_act_138 rfl (⟨rfl, ⟨hSq, upPi_wf hW (by omega), hJ1, hI⟩, Nat.le_refl _⟩) rfl ⟨Nat.le_of_ble_eq_true rfl, Nat.le_of_ble_eq_true rfl⟩
        · skip
          refine k_iconst hC 107 dL_act_107 (nI 1) (by decide) ?_
          exact k_iret hC hE 108 (s, g, s2, g2, x) dL_act_108 rfl (⟨rfl, hO, Nat.le_refl _⟩) rfl ⟨Nat.zero_le _, Nat.zero_le _⟩
      · skip
        refine k_tableIn hC 40 92 dL_act_40 (by decide) (by decide) rfl (by decide) ?_
        refine k_aload hC 92 dL_act_92 rfl ?_
        refine k_ifnull hC 94 dL_act_94 ?_
        refine k_aload hC 97 dL_act_97 rfl ?_
        refine m_getf hC 99 2 dL_act_99 (List.mem_cons_of_mem _ (List.mem_append_right _ (List.mem_append_right _ ((jm hJ hin))))) rfl inlX4 (by decide) wq_4_0 rfl ?_
        refine k_bipush hC 102 dL_act_102 (nI 9) (by decide) ?_
        refine n_icmp_ne hC 104 109 dL_act_104 (by decide) (by omega) (by omega) (fun h104 => ?_) (fun h104 => ?_)
        · skip
          refine k_aload hC 109 dL_act_109 rfl ?_
          refine k_dup hC 111 dL_act_111 rfl ?_
          refine m_getf hC 112 2 dL_act_112 (List.mem_cons_of_mem _ (List.mem_append_right _ (List.mem_append_right _ ((jm hJ hin))))) rfl inlX4 (by decide) wq_4_0 rfl ?_
          refine k_iconst hC 115 dL_act_115 (nI 1) (by decide) ?_
          refine n_iadd hC 116 ((piS s kd) + 1) dL_act_116 rfl ?_
          refine q_pins (m := m) (p := p) (r := r) hC 117 ((h, .inr (3, [.ref (a 0), .ref (b 0)])) :: (wSt D a s g ++ wSt D b s2 g2)) ((h, .inr (3, [.ref (a 0), .ref (b 0)])) :: (wSt D a s g ++ (wSt D b s2 g2 ++ (wSm D m p r (upPi s kd (piS s kd + 1)) (xPin s x kd (piS s kd + 1)))))) hW hJ hin dL_act_117 wq_4_0 (by simp only [List.append_assoc, List.cons_append, List.nil_append]) (by simp only [List.append_assoc, List.cons_append, List.nil_append]) (fun hJ1 => ?_)
          have ek2 : kn (nI kd) = kd := kn_ek hk
          have hK0 : pinK s (nI kd) = 0 := kK_0 (not_not_intro (Ck.of hk)) (by rw [ek2]; exact fun z => z.elim (fun y => y hin) (fun y => by omega))
          refine k_aload_n hC 120 dL_act_120 rfl ?_
          refine k_iload_n hC 121 dL_act_121 rfl ?_
          refine g_callV hC hX 122 0 ([]) (wSm D m p r (upPi s kd (piS s kd + 1)) (xPin s x kd (piS s kd + 1))) (fun uq => ((h, .inr (3, [.ref (a 0), .ref (b 0)])) :: (wSt D a uq.1.1 uq.1.2 ++ (wSt D b uq.2.1 uq.2.2 ++ (wSm D m p r (upPi s kd (piS s kd + 1)) (xPin s x kd (piS s kd + 1))))))) (c_X3_pin l hfl D h a b s s2 g g2 (nI kd) hS hW) cw_RL_35 dL_act_122 ⟨Nat.le_of_ble_eq_true rfl, Nat.le_of_ble_eq_true rfl, Nat.le_of_ble_eq_true rfl, Nat.le_of_ble_eq_true rfl⟩ rfl (Nat.le_of_ble_eq_true rfl) rfl rfl rfl (by simp only [List.append_assoc, List.cons_append, List.nil_append, List.append_nil]) (fun _ => rfl) (fun _ => by simp only [List.append_assoc, List.cons_append, List.nil_append, List.append_nil]) _ rfl (fun v uq hp => ?_) (fun E hx => absurd hx (no_x hK0))
          obtain ⟨-, rfl, euq, hSq⟩ := hp
          refine KJ.eqs (st' := .int (nI (piS s (kn (nI kd)) + 1)) :: []) rfl ?_
          refine KJ.topi (y := (nI (piS s kd + 1))) (by rw [ek2]) ?_
          obtain ⟨⟨saq, gaq⟩, sbq, gbq⟩ := uq
          dsimp only at euq hSq
          rw [ek2] at euq
          subst euq
          refine KJ.eqw (ws' := ((h, .inr (3, [.ref (a 0), .ref (b 0)])) :: (wSt D a (upPi s kd (piS s kd + 1)) gaq ++ (wSt D b sbq gbq ++ (wSm D m p r (upPi s kd (piS s kd + 1)) (xPin s x kd (piS s kd + 1))))))) rfl ?_
          refine k_aload hC 125 dL_act_125 rfl ?_
          refine m_getf hC 127 2 dL_act_127 (List.mem_cons_of_mem _ (List.mem_append_right _ (List.mem_append_right _ ((jm hJ1 hin))))) rfl inlX4 (by decide) wq_4_0 rfl ?_
          refine KJ.topi (y := nI (piS s kd + 1)) (congrArg nI (va_up_self _ _ _)) ?_
          refine n_icmp_ne hC 130 137 dL_act_130 (by decide) (by omega) (by omega) (fun h130 => ?_) (fun h130 => ?_)
          · skip
            exact absurd rfl h130
          · skip
            refine k_iconst hC 133 dL_act_133 (nI 1) (by decide) ?_
            refine k_goto hC 134 138 dL_act_134 (by decide) ?_
            exact k_iret hC hE 138 (upPi s kd (piS s kd + 1), gaq, sbq, gbq, xPin s x kd (piS s kd + 1)) dL_act_138 rfl (⟨rfl, ⟨hSq, upPi_wf hW (by omega), hJ1, hI⟩, Nat.le_refl _⟩) rfl ⟨Nat.le_of_ble_eq_true rfl, Nat.le_of_ble_eq_true rfl⟩
        · skip
          refine k_iconst hC 107 dL_act_107 (nI 1) (by decide) ?_
          exact k_iret hC hE 108 (s, g, s2, g2, x) dL_act_108 rfl (⟨rfl, hO, Nat.le_refl _⟩) rfl ⟨Nat.zero_le _, Nat.zero_le _⟩
      · skip
        refine k_tableIn hC 40 139 dL_act_40 (by decide) (by decide) rfl (by decide) ?_
        refine k_iconst hC 139 dL_act_139 (nI 0) (by decide) ?_
        refine k_istore hC 140 5 [(5, .int (nI 0)), (4, .ref (xA x kd)), (3, .int (nI kd)), (0, .ref h), (1, .ref m), (2, .int zz)] dL_act_140 (by decide) rfl ?_
        refine KJ.eql (lv' := [(5, .int (nI 0)), (4, fV s x kd), (3, .int (nI kd)), (0, .ref h), (1, .ref m), (2, .int zz)]) (by rw [fV_in hin]) ?_
        refine KJ.lvp [0, 1, 2, 3, 4, 5] rfl ?_
        exact cut142 41 0 kd (by omega) (by omega) hk
      · skip
        refine k_tableIn hC 40 139 dL_act_40 (by decide) (by decide) rfl (by decide) ?_
        refine k_iconst hC 139 dL_act_139 (nI 0) (by decide) ?_
        refine k_istore hC 140 5 [(5, .int (nI 0)), (4, .ref (xA x kd)), (3, .int (nI kd)), (0, .ref h), (1, .ref m), (2, .int zz)] dL_act_140 (by decide) rfl ?_
        refine KJ.eql (lv' := [(5, .int (nI 0)), (4, fV s x kd), (3, .int (nI kd)), (0, .ref h), (1, .ref m), (2, .int zz)]) (by rw [fV_in hin]) ?_
        refine KJ.lvp [0, 1, 2, 3, 4, 5] rfl ?_
        exact cut142 41 0 kd (by omega) (by omega) hk
      · skip
        refine k_tableIn hC 40 139 dL_act_40 (by decide) (by decide) rfl (by decide) ?_
        refine k_iconst hC 139 dL_act_139 (nI 0) (by decide) ?_
        refine k_istore hC 140 5 [(5, .int (nI 0)), (4, .ref (xA x kd)), (3, .int (nI kd)), (0, .ref h), (1, .ref m), (2, .int zz)] dL_act_140 (by decide) rfl ?_
        refine KJ.eql (lv' := [(5, .int (nI 0)), (4, fV s x kd), (3, .int (nI kd)), (0, .ref h), (1, .ref m), (2, .int zz)]) (by rw [fV_in hin]) ?_
        refine KJ.lvp [0, 1, 2, 3, 4, 5] rfl ?_
        exact cut142 41 0 kd (by omega) (by omega) hk
      · skip
        refine k_tableIn hC 40 227 dL_act_40 (by decide) (by decide) rfl (by decide) ?_
        refine k_aload hC 227 dL_act_227 rfl ?_
        refine k_ifnull hC 229 dL_act_229 ?_
        refine k_aload hC 232 dL_act_232 rfl ?_
        refine m_getf hC 234 2 dL_act_234 (List.mem_cons_of_mem _ (List.mem_append_right _ (List.mem_append_right _ ((jm hJ hin))))) rfl inlX4 (by decide) wq_4_0 rfl ?_
        refine n_if_le hC 237 242 dL_act_237 (by decide) (by omega) (fun h237 => ?_) (fun h237 => ?_)
        · skip
          have hK0 : eatK s (nI kd) = 0 := kK_0 (not_not_intro (Ck.of hk)) (by rw [ekn]; exact fun z => z.elim (fun y => y hin) (fun y => by omega))
          obtain ⟨N, T, A, B, to, pi, fe, pl, go, hi, mi, re, lo⟩ := s
          obtain ⟨n0, n1, l0, l1, hs, hl, f0, f1, g0, g1, Lp, f, adr⟩ := x
          obtain ⟨kN, kT, kA, kB, nd, len, lA, lB, p2, p12, g12, t1, p9⟩ := id hW
          obtain ⟨s0, s1, s2', s3, j0, j1, a0, a1, jp⟩ := id hJ
          have ndN : N.Nodup := (List.nodup_append.mp nd).1
          have ndT : T.Nodup := (List.nodup_append.mp nd).2.1
          refine KJ.eqw (ws' := ((h, .inr (3, [.ref (a 0), .ref (b 0)])) :: (wSt D a (N, T, A, B, to, pi, fe, pl, go, hi, mi, re, lo) g ++ (wSt D b s2 g2 ++ ((m, .inr (5, [.int (nI pl), .int (nI go), .int hi, .int mi, .int re, .int lo, .ref p, .ref r])) :: ((p, .inl (D.1 23, 2, qv hs)) :: ((r, .inl (D.1 24, 2, qv hl)) :: ((n0, .inl (D.1 22, N.length, qv f0)) :: ((n1, .inl (D.1 22, T.length, qv f1)) :: ((l0, .inl (D.1 20, A.length, .inl g0)) :: ((l1, .inl (D.1 20, B.length, .inl g1)) :: va_pl Lp f))))))))))) rfl ?_
          refine KJ.eql (lv' := [(4, .ref (adr kd)), (3, .int (nI kd)), (0, .ref h), (1, .ref m), (2, .int zz)]) rfl ?_
          refine k_iconst hC 242 dL_act_242 (nI 0) (by decide) ?_
          refine k_istore hC 243 5 [(5, .int (nI 0)), (4, .ref (adr kd)), (3, .int (nI kd)), (0, .ref h), (1, .ref m), (2, .int zz)] dL_act_243 (by decide) rfl ?_
          refine k_iload hC 245 dL_act_245 rfl ?_
          refine k_iconst hC 247 dL_act_247 (nI 2) (by decide) ?_
          refine n_icmp_ge hC 248 314 dL_act_248 (by decide) (by omega) (by omega) (fun h248 => ?_) (fun h248 => ?_)
          · skip
            exact absurd h248 (by decide)
          · skip
            refine k_aload_n hC 251 dL_act_251 rfl ?_
            refine k_getf hC 252 31 6 dL_act_252 rfl rfl inlX5 (by decide) wq_4_1 rfl ?_
            refine k_iload hC 255 dL_act_255 rfl ?_
            refine k_aald hC 257 32 0 3 (v := n0) dL_act_257 rfl rfl rfl (by omega) (by omega) s0 ?_
            refine k_alen hC 258 34 2 (nI N.length) dL_act_258 rfl rfl rfl ?_
            refine k_iconst hC 259 dL_act_259 (nI 1) (by decide) ?_
            refine k_isub hC 260 dL_act_260 (KJ.topi (y := ((nI N.length) - nI 1)) rfl ?_)
            refine k_istore hC 261 6 [(6, .int ((nI N.length) - nI 1)), (5, .int (nI 0)), (4, .ref (adr kd)), (3, .int (nI kd)), (0, .ref h), (1, .ref m), (2, .int zz)] dL_act_261 (by decide) rfl ?_
            refine KJ.eql (lv' := [(6, .int (nI N.length - nI 1)), (5, .int (nI 0)), (4, .ref (adr kd)), (3, .int (nI kd)), (0, .ref h), (1, .ref m), (2, .int zz)]) rfl ?_
            have loop263 : ∀ (nn263 : Nat) (c0 q0 : Nat) (hq0 F0 : Nat → Option Nat) (M0 : List Nat) (e0 : Nat), c0 < nn263 → c0 ≤ M0.length → hq0 0 = some q0 → hq0 1 = some n1 → RJ adr M0 F0 → (∀ z : Nat, z ∈ M0 → z ∈ N) → ((M0 = N ∧ e0 = 0 ∧ ∀ j : Nat, c0 ≤ j → j < M0.length → ¬ M0.getD j 0 = kd) ∨ (M0 = ea N kd ∧ e0 = 1 ∧ ∀ j : Nat, j < c0 → ¬ M0.getD j 0 = kd)) → KJ l G D ({ frames := 9, cells := 2770, slots := 36010, locals := 161 } : Room) 10 (0 + e0) (0 + 13 * e0) ((h, .inr (3, [.ref (a 0), .ref (b 0)])) :: (wSt D a (N, T, A, B, to, pi, fe, pl, go, hi, mi, re, lo) g ++ (wSt D b s2 g2 ++ ((m, .inr (5, [.int (nI pl), .int (nI go), .int hi, .int mi, .int re, .int lo, .ref p, .ref r])) :: ((p, .inl (D.1 23, 2, qv hq0)) :: ((r, .inl (D.1 24, 2, qv hl)) :: ((q0, .inl (D.1 22, M0.length, qv F0)) :: ((n1, .inl (D.1 22, T.length, qv f1)) :: ((l0, .inl (D.1 20, A.length, .inl g0)) :: ((l1, .inl (D.1 20, B.length, .inl g1)) :: va_pl Lp f)))))))))) [(6, .int (nI c0 - nI 1)), (5, .int (nI 0)), (4, .ref (adr kd)), (3, .int (nI kd)), (0, .ref h), (1, .ref m), (2, .int zz)] 263 ([]) := by
              intro nn263
              induction nn263 with
              | zero => intro c0 q0 hq0 F0 M0 e0 h; exact absurd h (Nat.not_lt_zero _)
              | succ nn263 ih263 =>
                intro c0 q0 hq0 F0 M0 e0 hn263 hc0 y0 z0 hR0 hM0 hD0
                have hML : M0.length ≤ N.length := by
                  rcases hD0 with ⟨z, -⟩ | ⟨z, -⟩
                  · rw [z]; exact Nat.le_refl _
                  · rw [z]; exact (ea_sub _ _).length_le
                have hE1 : e0 ≤ 1 := by rcases hD0 with ⟨-, z, -⟩ | ⟨-, z, -⟩ <;> omega
                refine k_iload hC 263 dL_act_263 rfl ?_
                rcases c0 with _ | c0
                · skip
                  refine KJ.eql (lv' := [(6, .int (nI 0 - nI 1)), (5, .int (nI 0)), (4, .ref (adr kd)), (3, .int (nI kd)), (0, .ref h), (1, .ref m), (2, .int zz)]) rfl ?_
                  refine k_if_lt hC 265 308 dL_act_265 (by decide) (fun h265 => ?_) (fun h265 => ?_)
                  · skip
                    have hEA0 : M0 = ea N kd := by
                      rcases hD0 with ⟨z, -, y⟩ | ⟨z, -, -⟩
                      · rw [z] at y ⊢
                        exact (ea_no (fun j hj => y j (Nat.zero_le _) hj)).symm
                      · exact z
                    refine KJ.wide (ce' := 1) (sl' := 13) (by omega) (by omega) ?_
                    refine k_iinc hC 308 1 (nI 1) [(5, .int (nI 1)), (6, .int (nI 0 - nI 1)), (4, .ref (adr kd)), (3, .int (nI kd)), (0, .ref h), (1, .ref m), (2, .int zz)] dL_act_308 rfl (by decide) (by decide) rfl ?_
                    refine k_goto hC 311 245 dL_act_311 (by decide) ?_
                    refine k_iload hC 245 dL_act_245 rfl ?_
                    refine k_iconst hC 247 dL_act_247 (nI 2) (by decide) ?_
                    refine n_icmp_ge hC 248 314 dL_act_248 (by decide) (by omega) (by omega) (fun h248 => ?_) (fun h248 => ?_)
                    · skip
                      exact absurd h248 (by decide)
                    · skip
                      refine k_aload_n hC 251 dL_act_251 rfl ?_
                      refine k_getf hC 252 31 6 dL_act_252 rfl rfl inlX5 (by decide) wq_4_1 rfl ?_
                      refine k_iload hC 255 dL_act_255 rfl ?_
                      refine k_aald hC 257 32 1 3 (v := n1) dL_act_257 rfl rfl rfl (by omega) (by omega) z0 ?_
                      refine k_alen hC 258 35 2 (nI T.length) dL_act_258 rfl rfl rfl ?_
                      refine k_iconst hC 259 dL_act_259 (nI 1) (by decide) ?_
                      refine k_isub hC 260 dL_act_260 (KJ.topi (y := ((nI T.length) - nI 1)) rfl ?_)
                      refine k_istore hC 261 6 [(6, .int ((nI T.length) - nI 1)), (5, .int (nI 1)), (4, .ref (adr kd)), (3, .int (nI kd)), (0, .ref h), (1, .ref m), (2, .int zz)] dL_act_261 (by decide) rfl ?_
                      refine KJ.eql (lv' := [(6, .int (nI T.length - nI 1)), (5, .int (nI 1)), (4, .ref (adr kd)), (3, .int (nI kd)), (0, .ref h), (1, .ref m), (2, .int zz)]) rfl ?_
                      have loop263 : ∀ (nn263 : Nat) (c1 q1 : Nat) (hq1 F1 : Nat → Option Nat) (M1 : List Nat) (e1 : Nat), c1 < nn263 → c1 ≤ M1.length → hq1 1 = some q1 → hq1 0 = some q0 → RJ adr M1 F1 → (∀ z : Nat, z ∈ M1 → z ∈ T) → ((M1 = T ∧ e1 = 0 ∧ ∀ j : Nat, c1 ≤ j → j < M1.length → ¬ M1.getD j 0 = kd) ∨ (M1 = ea T kd ∧ e1 = 1 ∧ ∀ j : Nat, j < c1 → ¬ M1.getD j 0 = kd)) → KJ l G D ({ frames := 9, cells := 2770, slots := 36010, locals := 161 } : Room) 10 ((1) + e1) ((13) + 13 * e1) ((h, .inr (3, [.ref (a 0), .ref (b 0)])) :: (wSt D a (N, T, A, B, to, pi, fe, pl, go, hi, mi, re, lo) g ++ (wSt D b s2 g2 ++ ((m, .inr (5, [.int (nI pl), .int (nI go), .int hi, .int mi, .int re, .int lo, .ref p, .ref r])) :: ((p, .inl (D.1 23, 2, qv hq1)) :: ((r, .inl (D.1 24, 2, qv hl)) :: ((q0, .inl (D.1 22, M0.length, qv F0)) :: ((q1, .inl (D.1 22, M1.length, qv F1)) :: ((l0, .inl (D.1 20, A.length, .inl g0)) :: ((l1, .inl (D.1 20, B.length, .inl g1)) :: va_pl Lp f)))))))))) [(6, .int (nI c1 - nI 1)), (5, .int (nI 1)), (4, .ref (adr kd)), (3, .int (nI kd)), (0, .ref h), (1, .ref m), (2, .int zz)] 263 ([]) := by
                        intro nn263
                        induction nn263 with
                        | zero => intro c1 q1 hq1 F1 M1 e1 h; exact absurd h (Nat.not_lt_zero _)
                        | succ nn263 ih263 =>
                          intro c1 q1 hq1 F1 M1 e1 hn263 hc1 y1 z1 hR1 hM1 hD1
                          have hML : M1.length ≤ T.length := by
                            rcases hD1 with ⟨z, -⟩ | ⟨z, -⟩
                            · rw [z]; exact Nat.le_refl _
                            · rw [z]; exact (ea_sub _ _).length_le
                          have hE1 : e1 ≤ 1 := by rcases hD1 with ⟨-, z, -⟩ | ⟨-, z, -⟩ <;> omega
                          refine k_iload hC 263 dL_act_263 rfl ?_
                          rcases c1 with _ | c1
                          · skip
                            refine KJ.eql (lv' := [(6, .int (nI 0 - nI 1)), (5, .int (nI 1)), (4, .ref (adr kd)), (3, .int (nI kd)), (0, .ref h), (1, .ref m), (2, .int zz)]) rfl ?_
                            refine k_if_lt hC 265 308 dL_act_265 (by decide) (fun h265 => ?_) (fun h265 => ?_)
                            · skip
                              have hEA1 : M1 = ea T kd := by
                                rcases hD1 with ⟨z, -, y⟩ | ⟨z, -, -⟩
                                · rw [z] at y ⊢
                                  exact (ea_no (fun j hj => y j (Nat.zero_le _) hj)).symm
                                · exact z
                              refine KJ.wide (ce' := 2) (sl' := 26) (by omega) (by omega) ?_
                              refine k_iinc hC 308 1 (nI 2) [(5, .int (nI 2)), (6, .int (nI 0 - nI 1)), (4, .ref (adr kd)), (3, .int (nI kd)), (0, .ref h), (1, .ref m), (2, .int zz)] dL_act_308 rfl (by decide) (by decide) rfl ?_
                              refine k_goto hC 311 245 dL_act_311 (by decide) ?_
                              refine k_iload hC 245 dL_act_245 rfl ?_
                              refine k_iconst hC 247 dL_act_247 (nI 2) (by decide) ?_
                              refine n_icmp_ge hC 248 314 dL_act_248 (by decide) (by omega) (by omega) (fun h248 => ?_) (fun h248 => ?_)
                              · skip
                                subst hEA0
                                subst hEA1
                                have hJ3 : SJ (ea N kd, ea T kd, A, B, to, pi, fe, pl, go, hi, mi, re, lo) (q0, q1, l0, l1, hq1, hl, F0, F1, g0, g1, Lp, f, adr) := ⟨z1, y1, s2', s3, hR0, hR1, a0, a1, jp.sub (fun z hz => hz.elim (fun y => Or.inl (hM0 z y)) (fun y => Or.inr (hM1 z y)))⟩
                                refine k_aload_n hC 314 dL_act_314 rfl ?_
                                refine k_iload_n hC 315 dL_act_315 rfl ?_
                                refine g_callV hC hX 316 0 ([]) ((m, .inr (5, [.int (nI pl), .int (nI go), .int hi, .int mi, .int re, .int lo, .ref p, .ref r])) :: ((p, .inl (D.1 23, 2, qv hq1)) :: ((r, .inl (D.1 24, 2, qv hl)) :: ((q0, .inl (D.1 22, (ea N kd).length, qv F0)) :: ((q1, .inl (D.1 22, (ea T kd).length, qv F1)) :: ((l0, .inl (D.1 20, A.length, .inl g0)) :: ((l1, .inl (D.1 20, B.length, .inl g1)) :: va_pl Lp f))))))) (fun uq => ((h, .inr (3, [.ref (a 0), .ref (b 0)])) :: (wSt D a uq.1.1 uq.1.2 ++ (wSt D b uq.2.1 uq.2.2 ++ ((m, .inr (5, [.int (nI pl), .int (nI go), .int hi, .int mi, .int re, .int lo, .ref p, .ref r])) :: ((p, .inl (D.1 23, 2, qv hq1)) :: ((r, .inl (D.1 24, 2, qv hl)) :: ((q0, .inl (D.1 22, (ea N kd).length, qv F0)) :: ((q1, .inl (D.1 22, (ea T kd).length, qv F1)) :: ((l0, .inl (D.1 20, A.length, .inl g0)) :: ((l1, .inl (D.1 20, B.length, .inl g1)) :: va_pl Lp f))))))))))) (c_X3_eat l hfl D h a b (N, T, A, B, to, pi, fe, pl, go, hi, mi, re, lo) s2 g g2 (nI kd) hS hW) cw_RL_49 dL_act_316 ⟨Nat.le_of_ble_eq_true rfl, Nat.le_of_ble_eq_true rfl, Nat.le_of_ble_eq_true rfl, Nat.le_of_ble_eq_true rfl⟩ rfl (Nat.le_of_ble_eq_true rfl) rfl rfl rfl (by simp only [List.append_assoc, List.cons_append, List.nil_append, List.append_nil]) (fun _ => rfl) (fun _ => by simp only [List.append_assoc, List.cons_append, List.nil_append, List.append_nil]) _ rfl (fun v uq hp => ?_) (fun E hx => absurd hx (no_x hK0))
                                obtain ⟨-, rfl, euq, hSq⟩ := hp
                                refine KJ.eqs (st' := .int (feS (N, T, A, B, to, pi, fe, pl, go, hi, mi, re, lo) (kn (nI kd))) :: []) rfl ?_
                                refine KJ.topi (y := (fe kd)) (by rw [ekn]; rfl) ?_
                                obtain ⟨⟨saq, gaq⟩, sbq, gbq⟩ := uq
                                dsimp only at euq hSq
                                rw [ekn] at euq
                                subst euq
                                refine KJ.eqw (ws' := ((h, .inr (3, [.ref (a 0), .ref (b 0)])) :: (wSt D a (eatS (N, T, A, B, to, pi, fe, pl, go, hi, mi, re, lo) kd) gaq ++ (wSt D b sbq gbq ++ ((m, .inr (5, [.int (nI pl), .int (nI go), .int hi, .int mi, .int re, .int lo, .ref p, .ref r])) :: ((p, .inl (D.1 23, 2, qv hq1)) :: ((r, .inl (D.1 24, 2, qv hl)) :: ((q0, .inl (D.1 22, (ea N kd).length, qv F0)) :: ((q1, .inl (D.1 22, (ea T kd).length, qv F1)) :: ((l0, .inl (D.1 20, A.length, .inl g0)) :: ((l1, .inl (D.1 20, B.length, .inl g1)) :: va_pl Lp f))))))))))) rfl ?_
                                refine k_aload hC 319 dL_act_319 rfl ?_
                                refine m_getf hC 321 3 dL_act_321 (List.mem_cons_of_mem _ (List.mem_append_right _ (List.mem_append_right _ (List.mem_cons_of_mem _ (List.mem_cons_of_mem _ (List.mem_cons_of_mem _ (List.mem_cons_of_mem _ (List.mem_cons_of_mem _ (List.mem_cons_of_mem _ (List.mem_cons_of_mem _ (pl_mem (jp kd hin).1 (jp kd hin).2))))))))))) rfl inlX4 (by decide) wq_4_2 rfl ?_
                                refine k_icmp_ne hC 324 331 dL_act_324 (by decide) (fun h324 => ?_) (fun h324 => ?_)
                                · skip
                                  exact absurd rfl h324
                                · skip
                                  refine k_iconst hC 327 dL_act_327 (nI 1) (by decide) ?_
                                  refine k_goto hC 328 332 dL_act_328 (by decide) ?_
                                  exact k_iret hC hE 332 (eatS (N, T, A, B, to, pi, fe, pl, go, hi, mi, re, lo) kd, gaq, sbq, gbq, (q0, q1, l0, l1, hq1, hl, F0, F1, g0, g1, Lp, f, adr)) dL_act_332 rfl (⟨rfl, ⟨hSq, eatS_wf hW kd, hJ3, ⟨Nat.le_trans (Nat.add_le_add (ea_sub N kd).length_le (ea_sub T kd).length_le) hI.1, hI.2⟩⟩, Nat.le_refl _⟩) rfl ⟨Nat.le_of_ble_eq_true rfl, Nat.le_of_ble_eq_true rfl⟩
                              · skip
                                exact absurd h248 (by decide)
                            · skip
                              exact absurd (by decide) h265
                          · skip
                            refine KJ.topi (y := nI c1) (pk_sub (by omega)) ?_
                            refine KJ.eql (lv' := [(6, .int (nI c1)), (5, .int (nI 1)), (4, .ref (adr kd)), (3, .int (nI kd)), (0, .ref h), (1, .ref m), (2, .int zz)]) (by rw [show nI (c1 + 1) - nI 1 = nI c1 from pk_sub (by omega)]) ?_
                            refine n_if_lt hC 265 308 dL_act_265 (by decide) (by omega) (fun h265 => ?_) (fun h265 => ?_)
                            · skip
                              exact h265.elim
                            · skip
                              refine k_aload_n hC 268 dL_act_268 rfl ?_
                              refine k_getf hC 269 31 6 dL_act_269 rfl rfl inlX5 (by decide) wq_4_1 rfl ?_
                              refine k_iload hC 272 dL_act_272 rfl ?_
                              refine k_aald hC 274 32 1 3 (v := q1) dL_act_274 rfl rfl rfl (by omega) (by omega) y1 ?_
                              refine k_iload hC 275 dL_act_275 rfl ?_
                              refine k_aald hC 277 35 c1 2 (v := (adr (M1.getD c1 0))) dL_act_277 rfl rfl rfl (by omega) (by omega) (hR1 c1 (by omega)) ?_
                              refine k_aload hC 278 dL_act_278 rfl ?_
                              refine k_acmp_ne hC 280 302 dL_act_280 (by decide) (fun h280 => ?_) (fun h280 => ?_)
                              · skip
                                have hne : ¬ M1.getD c1 0 = kd := fun z => h280 (by rw [z])
                                have hD2 : ((M1 = T ∧ e1 = 0 ∧ ∀ j : Nat, c1 ≤ j → j < M1.length → ¬ M1.getD j 0 = kd) ∨ (M1 = ea T kd ∧ e1 = 1 ∧ ∀ j : Nat, j < c1 → ¬ M1.getD j 0 = kd)) := by
                                  rcases hD1 with ⟨z1, z2, z3⟩ | ⟨z1, z2, z3⟩
                                  · refine Or.inl ⟨z1, z2, fun j h1 h2 => ?_⟩
                                    by_cases hj : j = c1
                                    · rw [hj]; exact hne
                                    · exact z3 j (by omega) h2
                                  · exact Or.inr ⟨z1, z2, fun j h1 => z3 j (by omega)⟩
                                refine k_iinc hC 302 0 (nI c1 - nI 1) [(6, .int (nI c1 - nI 1)), (5, .int (nI 1)), (4, .ref (adr kd)), (3, .int (nI kd)), (0, .ref h), (1, .ref m), (2, .int zz)] dL_act_302 rfl (m1_m c1) (by decide) rfl ?_
                                refine k_goto hC 305 263 dL_act_305 (by decide) ?_
                                exact ih263 c1 q1 hq1 F1 M1 e1 (by omega) (by omega) y1 z1 hR1 hM1 hD2
                              · skip
                                have heq : M1.getD c1 0 = kd := Classical.byContradiction (fun z => jp.ne kN kT (Or.inr (hM1 _ (getD_mem (by omega)))) hin z h280)
                                obtain ⟨hMN, he0, -⟩ : M1 = T ∧ e1 = 0 ∧ True := by
                                  rcases hD1 with ⟨z1, z2, -⟩ | ⟨z1, z2, z3⟩
                                  · exact ⟨z1, z2, trivial⟩
                                  · exact absurd heq (z3 c1 (by omega))
                                have hcL : c1 < M1.length := by omega
                                have ndM : M1.Nodup := by rw [hMN]; exact ndT
                                have hea := ea_at ndM hcL heq
                                refine k_aload_n hC 283 dL_act_283 rfl ?_
                                refine k_getf hC 284 31 6 dL_act_284 rfl rfl inlX5 (by decide) wq_4_1 rfl ?_
                                refine k_iload hC 287 dL_act_287 rfl ?_
                                refine k_aload_n hC 289 dL_act_289 rfl ?_
                                refine k_getf hC 290 31 6 dL_act_290 rfl rfl inlX5 (by decide) wq_4_1 rfl ?_
                                refine k_iload hC 293 dL_act_293 rfl ?_
                                refine k_aald hC 295 32 1 3 (v := q1) dL_act_295 rfl rfl rfl (by omega) (by omega) y1 ?_
                                refine k_iload hC 296 dL_act_296 rfl ?_
                                refine KJ.bk ((h, .inr (3, [.ref (a 0), .ref (b 0)])) :: (wSt D a (N, T, A, B, to, pi, fe, pl, go, hi, mi, re, lo) g ++ (wSt D b s2 g2 ++ ((m, .inr (5, [.int (nI pl), .int (nI go), .int hi, .int mi, .int re, .int lo, .ref p, .ref r])) :: ((p, .inl (D.1 23, 2, qv hq1)) :: ((r, .inl (D.1 24, 2, qv hl)) :: ((q0, .inl (D.1 22, M0.length, qv F0)) :: []))))))) ((l0, .inl (D.1 20, A.length, .inl g0)) :: ((l1, .inl (D.1 20, B.length, .inl g1)) :: [])) (va_pl Lp f) (q1, .inl (D.1 22, M1.length, qv F1)) (by simp only [List.append_assoc, List.cons_append, List.nil_append]) (by simp only [List.append_assoc, List.cons_append, List.nil_append]) (ws' := ((h, .inr (3, [.ref (a 0), .ref (b 0)])) :: (wSt D a (N, T, A, B, to, pi, fe, pl, go, hi, mi, re, lo) g ++ (wSt D b s2 g2 ++ ((m, .inr (5, [.int (nI pl), .int (nI go), .int hi, .int mi, .int re, .int lo, .ref p, .ref r])) :: ((p, .inl (D.1 23, 2, qv hq1)) :: ((r, .inl (D.1 24, 2, qv hl)) :: ((q0, .inl (D.1 22, M0.length, qv F0)) :: ((l0, .inl (D.1 20, A.length, .inl g0)) :: ((l1, .inl (D.1 20, B.length, .inl g1)) :: ((q1, .inl (D.1 22, M1.length, qv F1)) :: va_pl Lp f))))))))))) ?_
                                refine f_callSe hC 298 ((h, .inr (3, [.ref (a 0), .ref (b 0)])) :: (wSt D a (N, T, A, B, to, pi, fe, pl, go, hi, mi, re, lo) g ++ (wSt D b s2 g2 ++ ((m, .inr (5, [.int (nI pl), .int (nI go), .int hi, .int mi, .int re, .int lo, .ref p, .ref r])) :: ((p, .inl (D.1 23, 2, qv hq1)) :: ((r, .inl (D.1 24, 2, qv hl)) :: ((q0, .inl (D.1 22, M0.length, qv F0)) :: ((l0, .inl (D.1 20, A.length, .inl g0)) :: ((l1, .inl (D.1 20, B.length, .inl g1)) :: []))))))))) (fun q298 => ((h, .inr (3, [.ref (a 0), .ref (b 0)])) :: (wSt D a (N, T, A, B, to, pi, fe, pl, go, hi, mi, re, lo) g ++ (wSt D b s2 g2 ++ ((m, .inr (5, [.int (nI pl), .int (nI go), .int hi, .int mi, .int re, .int lo, .ref p, .ref r])) :: ((p, .inl (D.1 23, 2, qv hq1)) :: ((r, .inl (D.1 24, 2, qv hl)) :: ((q0, .inl (D.1 22, M0.length, qv F0)) :: ((l0, .inl (D.1 20, A.length, .inl g0)) :: ((l1, .inl (D.1 20, B.length, .inl g1)) :: ((q1, .inl (D.1 22, M1.length, qv F1)) :: ((q298, .inl (D.1 22, M1.length - 1, qv (fillq (wof F1 c1) (M1.length - 1)))) :: va_pl Lp f)))))))))))) (c_L_without l D q1 M1.length F1 c1 Lp f hcL (by omega) (rj_ok hR1 jp (fun x hx => Or.inr (hM1 x hx))))  cw_RL_45 dL_act_298 ⟨Nat.le_of_ble_eq_true rfl, Nat.le_of_ble_eq_true rfl, (show (1) + e1 + 1 ≤ 2770 by omega), (show (13) + 13 * e1 + 13 ≤ 36010 by omega)⟩ rfl (Nat.le_of_ble_eq_true rfl) (by simp only [List.append_assoc, List.cons_append, List.nil_append, List.append_nil]) (fun _ => by simp) (fun _ => by simp only [List.append_assoc, List.cons_append, List.nil_append, List.append_nil]) _ rfl (fun v q298 hp => ?_)
                                obtain rfl := hp
                                refine KJ.eqs (st' := .ref q298 :: .int (nI 1) :: .ref p :: []) rfl ?_
                                refine k_astA hC 301 32 38 1 (t := .object RX4) 3 2 ((h, .inr (3, [.ref (a 0), .ref (b 0)])) :: (wSt D a (N, T, A, B, to, pi, fe, pl, go, hi, mi, re, lo) g ++ (wSt D b s2 g2 ++ ((m, .inr (5, [.int (nI pl), .int (nI go), .int hi, .int mi, .int re, .int lo, .ref p, .ref r])) :: ((p, .inl (D.1 23, 2, qv (va_up hq1 1 (some q298)))) :: ((r, .inl (D.1 24, 2, qv hl)) :: ((q0, .inl (D.1 22, M0.length, qv F0)) :: ((l0, .inl (D.1 20, A.length, .inl g0)) :: ((l1, .inl (D.1 20, B.length, .inl g1)) :: ((q1, .inl (D.1 22, M1.length, qv F1)) :: ((q298, .inl (D.1 22, M1.length - 1, qv (fillq (wof F1 c1) (M1.length - 1)))) :: va_pl Lp f))))))))))) hC.kt.2.2.2.2.2.2.1 rfl rfl (fcJ hC) dL_act_301 rfl rfl (by omega) (by omega) rfl ?_
                                refine KJ.dr ((h, .inr (3, [.ref (a 0), .ref (b 0)])) :: (wSt D a (N, T, A, B, to, pi, fe, pl, go, hi, mi, re, lo) g ++ (wSt D b s2 g2 ++ ((m, .inr (5, [.int (nI pl), .int (nI go), .int hi, .int mi, .int re, .int lo, .ref p, .ref r])) :: ((p, .inl (D.1 23, 2, qv (va_up hq1 1 (some q298)))) :: ((r, .inl (D.1 24, 2, qv hl)) :: ((q0, .inl (D.1 22, M0.length, qv F0)) :: ((l0, .inl (D.1 20, A.length, .inl g0)) :: ((l1, .inl (D.1 20, B.length, .inl g1)) :: []))))))))) ((q298, .inl (D.1 22, M1.length - 1, qv (fillq (wof F1 c1) (M1.length - 1)))) :: va_pl Lp f) (q1, .inl (D.1 22, M1.length, qv F1)) (by simp only [List.append_assoc, List.cons_append, List.nil_append]) (by simp only [List.append_assoc, List.cons_append, List.nil_append]) (ws' := ((h, .inr (3, [.ref (a 0), .ref (b 0)])) :: (wSt D a (N, T, A, B, to, pi, fe, pl, go, hi, mi, re, lo) g ++ (wSt D b s2 g2 ++ ((m, .inr (5, [.int (nI pl), .int (nI go), .int hi, .int mi, .int re, .int lo, .ref p, .ref r])) :: ((p, .inl (D.1 23, 2, qv (va_up hq1 1 (some q298)))) :: ((r, .inl (D.1 24, 2, qv hl)) :: ((q0, .inl (D.1 22, M0.length, qv F0)) :: ((l0, .inl (D.1 20, A.length, .inl g0)) :: ((l1, .inl (D.1 20, B.length, .inl g1)) :: ((q298, .inl (D.1 22, M1.length - 1, qv (fillq (wof F1 c1) (M1.length - 1)))) :: va_pl Lp f))))))))))) ?_
                                refine KJ.fw ((h, .inr (3, [.ref (a 0), .ref (b 0)])) :: (wSt D a (N, T, A, B, to, pi, fe, pl, go, hi, mi, re, lo) g ++ (wSt D b s2 g2 ++ ((m, .inr (5, [.int (nI pl), .int (nI go), .int hi, .int mi, .int re, .int lo, .ref p, .ref r])) :: ((p, .inl (D.1 23, 2, qv (va_up hq1 1 (some q298)))) :: ((r, .inl (D.1 24, 2, qv hl)) :: ((q0, .inl (D.1 22, M0.length, qv F0)) :: []))))))) ((l0, .inl (D.1 20, A.length, .inl g0)) :: ((l1, .inl (D.1 20, B.length, .inl g1)) :: [])) (va_pl Lp f) (q298, .inl (D.1 22, M1.length - 1, qv (fillq (wof F1 c1) (M1.length - 1)))) (by simp only [List.append_assoc, List.cons_append, List.nil_append]) (by simp only [List.append_assoc, List.cons_append, List.nil_append]) (ws' := ((h, .inr (3, [.ref (a 0), .ref (b 0)])) :: (wSt D a (N, T, A, B, to, pi, fe, pl, go, hi, mi, re, lo) g ++ (wSt D b s2 g2 ++ ((m, .inr (5, [.int (nI pl), .int (nI go), .int hi, .int mi, .int re, .int lo, .ref p, .ref r])) :: ((p, .inl (D.1 23, 2, qv (va_up hq1 1 (some q298)))) :: ((r, .inl (D.1 24, 2, qv hl)) :: ((q0, .inl (D.1 22, M0.length, qv F0)) :: ((q298, .inl (D.1 22, M1.length - 1, qv (fillq (wof F1 c1) (M1.length - 1)))) :: ((l0, .inl (D.1 20, A.length, .inl g0)) :: ((l1, .inl (D.1 20, B.length, .inl g1)) :: va_pl Lp f))))))))))) ?_
                                refine KJ.eqw (ws' := ((h, .inr (3, [.ref (a 0), .ref (b 0)])) :: (wSt D a (N, T, A, B, to, pi, fe, pl, go, hi, mi, re, lo) g ++ (wSt D b s2 g2 ++ ((m, .inr (5, [.int (nI pl), .int (nI go), .int hi, .int mi, .int re, .int lo, .ref p, .ref r])) :: ((p, .inl (D.1 23, 2, qv (va_up hq1 1 (some q298)))) :: ((r, .inl (D.1 24, 2, qv hl)) :: ((q0, .inl (D.1 22, M0.length, qv F0)) :: ((q298, .inl (D.1 22, (M1.eraseIdx c1).length, qv (fillq (wof F1 c1) (M1.length - 1)))) :: ((l0, .inl (D.1 20, A.length, .inl g0)) :: ((l1, .inl (D.1 20, B.length, .inl g1)) :: va_pl Lp f))))))))))) (by rw [List.length_eraseIdx_of_lt hcL]) ?_
                                refine k_iinc hC 302 0 (nI c1 - nI 1) [(6, .int (nI c1 - nI 1)), (5, .int (nI 1)), (4, .ref (adr kd)), (3, .int (nI kd)), (0, .ref h), (1, .ref m), (2, .int zz)] dL_act_302 rfl (m1_m c1) (by decide) rfl ?_
                                refine k_goto hC 305 263 dL_act_305 (by decide) ?_
                                exact KJ.wide (by omega) (by omega) (ih263 c1 q298 _ _ (M1.eraseIdx c1) 1 (by omega) (by rw [List.length_eraseIdx_of_lt hcL]; omega) (va_up_self _ _ _) ((va_up_ne _ _ (by decide)).trans z1) (hR1.cut hcL) (fun z hz => hM1 z (List.mem_of_mem_eraseIdx hz)) (Or.inr ⟨by rw [← hea.1, hMN], rfl, hea.2⟩))
                      exact KJ.wide (by omega) (by omega) (loop263 (T.length + 1) T.length n1 _ _ T 0 (by omega) (Nat.le_refl _) z0 y0 j1 (fun z hz => hz) (Or.inl ⟨rfl, rfl, fun j h1 h2 => absurd h1 (by omega)⟩))
                  · skip
                    exact absurd (by decide) h265
                · skip
                  refine KJ.topi (y := nI c0) (pk_sub (by omega)) ?_
                  refine KJ.eql (lv' := [(6, .int (nI c0)), (5, .int (nI 0)), (4, .ref (adr kd)), (3, .int (nI kd)), (0, .ref h), (1, .ref m), (2, .int zz)]) (by rw [show nI (c0 + 1) - nI 1 = nI c0 from pk_sub (by omega)]) ?_
                  refine n_if_lt hC 265 308 dL_act_265 (by decide) (by omega) (fun h265 => ?_) (fun h265 => ?_)
                  · skip
                    exact h265.elim
                  · skip
                    refine k_aload_n hC 268 dL_act_268 rfl ?_
                    refine k_getf hC 269 31 6 dL_act_269 rfl rfl inlX5 (by decide) wq_4_1 rfl ?_
                    refine k_iload hC 272 dL_act_272 rfl ?_
                    refine k_aald hC 274 32 0 3 (v := q0) dL_act_274 rfl rfl rfl (by omega) (by omega) y0 ?_
                    refine k_iload hC 275 dL_act_275 rfl ?_
                    refine k_aald hC 277 34 c0 2 (v := (adr (M0.getD c0 0))) dL_act_277 rfl rfl rfl (by omega) (by omega) (hR0 c0 (by omega)) ?_
                    refine k_aload hC 278 dL_act_278 rfl ?_
                    refine k_acmp_ne hC 280 302 dL_act_280 (by decide) (fun h280 => ?_) (fun h280 => ?_)
                    · skip
                      have hne : ¬ M0.getD c0 0 = kd := fun z => h280 (by rw [z])
                      have hD2 : ((M0 = N ∧ e0 = 0 ∧ ∀ j : Nat, c0 ≤ j → j < M0.length → ¬ M0.getD j 0 = kd) ∨ (M0 = ea N kd ∧ e0 = 1 ∧ ∀ j : Nat, j < c0 → ¬ M0.getD j 0 = kd)) := by
                        rcases hD0 with ⟨z1, z2, z3⟩ | ⟨z1, z2, z3⟩
                        · refine Or.inl ⟨z1, z2, fun j h1 h2 => ?_⟩
                          by_cases hj : j = c0
                          · rw [hj]; exact hne
                          · exact z3 j (by omega) h2
                        · exact Or.inr ⟨z1, z2, fun j h1 => z3 j (by omega)⟩
                      refine k_iinc hC 302 0 (nI c0 - nI 1) [(6, .int (nI c0 - nI 1)), (5, .int (nI 0)), (4, .ref (adr kd)), (3, .int (nI kd)), (0, .ref h), (1, .ref m), (2, .int zz)] dL_act_302 rfl (m1_m c0) (by decide) rfl ?_
                      refine k_goto hC 305 263 dL_act_305 (by decide) ?_
                      exact ih263 c0 q0 hq0 F0 M0 e0 (by omega) (by omega) y0 z0 hR0 hM0 hD2
                    · skip
                      have heq : M0.getD c0 0 = kd := Classical.byContradiction (fun z => jp.ne kN kT (Or.inl (hM0 _ (getD_mem (by omega)))) hin z h280)
                      obtain ⟨hMN, he0, -⟩ : M0 = N ∧ e0 = 0 ∧ True := by
                        rcases hD0 with ⟨z1, z2, -⟩ | ⟨z1, z2, z3⟩
                        · exact ⟨z1, z2, trivial⟩
                        · exact absurd heq (z3 c0 (by omega))
                      have hcL : c0 < M0.length := by omega
                      have ndM : M0.Nodup := by rw [hMN]; exact ndN
                      have hea := ea_at ndM hcL heq
                      refine k_aload_n hC 283 dL_act_283 rfl ?_
                      refine k_getf hC 284 31 6 dL_act_284 rfl rfl inlX5 (by decide) wq_4_1 rfl ?_
                      refine k_iload hC 287 dL_act_287 rfl ?_
                      refine k_aload_n hC 289 dL_act_289 rfl ?_
                      refine k_getf hC 290 31 6 dL_act_290 rfl rfl inlX5 (by decide) wq_4_1 rfl ?_
                      refine k_iload hC 293 dL_act_293 rfl ?_
                      refine k_aald hC 295 32 0 3 (v := q0) dL_act_295 rfl rfl rfl (by omega) (by omega) y0 ?_
                      refine k_iload hC 296 dL_act_296 rfl ?_
                      refine KJ.bk ((h, .inr (3, [.ref (a 0), .ref (b 0)])) :: (wSt D a (N, T, A, B, to, pi, fe, pl, go, hi, mi, re, lo) g ++ (wSt D b s2 g2 ++ ((m, .inr (5, [.int (nI pl), .int (nI go), .int hi, .int mi, .int re, .int lo, .ref p, .ref r])) :: ((p, .inl (D.1 23, 2, qv hq0)) :: ((r, .inl (D.1 24, 2, qv hl)) :: [])))))) ((n1, .inl (D.1 22, T.length, qv f1)) :: ((l0, .inl (D.1 20, A.length, .inl g0)) :: ((l1, .inl (D.1 20, B.length, .inl g1)) :: []))) (va_pl Lp f) (q0, .inl (D.1 22, M0.length, qv F0)) (by simp only [List.append_assoc, List.cons_append, List.nil_append]) (by simp only [List.append_assoc, List.cons_append, List.nil_append]) (ws' := ((h, .inr (3, [.ref (a 0), .ref (b 0)])) :: (wSt D a (N, T, A, B, to, pi, fe, pl, go, hi, mi, re, lo) g ++ (wSt D b s2 g2 ++ ((m, .inr (5, [.int (nI pl), .int (nI go), .int hi, .int mi, .int re, .int lo, .ref p, .ref r])) :: ((p, .inl (D.1 23, 2, qv hq0)) :: ((r, .inl (D.1 24, 2, qv hl)) :: ((n1, .inl (D.1 22, T.length, qv f1)) :: ((l0, .inl (D.1 20, A.length, .inl g0)) :: ((l1, .inl (D.1 20, B.length, .inl g1)) :: ((q0, .inl (D.1 22, M0.length, qv F0)) :: va_pl Lp f))))))))))) ?_
                      refine f_callSe hC 298 ((h, .inr (3, [.ref (a 0), .ref (b 0)])) :: (wSt D a (N, T, A, B, to, pi, fe, pl, go, hi, mi, re, lo) g ++ (wSt D b s2 g2 ++ ((m, .inr (5, [.int (nI pl), .int (nI go), .int hi, .int mi, .int re, .int lo, .ref p, .ref r])) :: ((p, .inl (D.1 23, 2, qv hq0)) :: ((r, .inl (D.1 24, 2, qv hl)) :: ((n1, .inl (D.1 22, T.length, qv f1)) :: ((l0, .inl (D.1 20, A.length, .inl g0)) :: ((l1, .inl (D.1 20, B.length, .inl g1)) :: []))))))))) (fun q298 => ((h, .inr (3, [.ref (a 0), .ref (b 0)])) :: (wSt D a (N, T, A, B, to, pi, fe, pl, go, hi, mi, re, lo) g ++ (wSt D b s2 g2 ++ ((m, .inr (5, [.int (nI pl), .int (nI go), .int hi, .int mi, .int re, .int lo, .ref p, .ref r])) :: ((p, .inl (D.1 23, 2, qv hq0)) :: ((r, .inl (D.1 24, 2, qv hl)) :: ((n1, .inl (D.1 22, T.length, qv f1)) :: ((l0, .inl (D.1 20, A.length, .inl g0)) :: ((l1, .inl (D.1 20, B.length, .inl g1)) :: ((q0, .inl (D.1 22, M0.length, qv F0)) :: ((q298, .inl (D.1 22, M0.length - 1, qv (fillq (wof F0 c0) (M0.length - 1)))) :: va_pl Lp f)))))))))))) (c_L_without l D q0 M0.length F0 c0 Lp f hcL (by omega) (rj_ok hR0 jp (fun x hx => Or.inl (hM0 x hx))))  cw_RL_45 dL_act_298 ⟨Nat.le_of_ble_eq_true rfl, Nat.le_of_ble_eq_true rfl, (show 0 + e0 + 1 ≤ 2770 by omega), (show 0 + 13 * e0 + 13 ≤ 36010 by omega)⟩ rfl (Nat.le_of_ble_eq_true rfl) (by simp only [List.append_assoc, List.cons_append, List.nil_append, List.append_nil]) (fun _ => by simp) (fun _ => by simp only [List.append_assoc, List.cons_append, List.nil_append, List.append_nil]) _ rfl (fun v q298 hp => ?_)
                      obtain rfl := hp
                      refine KJ.eqs (st' := .ref q298 :: .int (nI 0) :: .ref p :: []) rfl ?_
                      refine k_astA hC 301 32 38 0 (t := .object RX4) 3 2 ((h, .inr (3, [.ref (a 0), .ref (b 0)])) :: (wSt D a (N, T, A, B, to, pi, fe, pl, go, hi, mi, re, lo) g ++ (wSt D b s2 g2 ++ ((m, .inr (5, [.int (nI pl), .int (nI go), .int hi, .int mi, .int re, .int lo, .ref p, .ref r])) :: ((p, .inl (D.1 23, 2, qv (va_up hq0 0 (some q298)))) :: ((r, .inl (D.1 24, 2, qv hl)) :: ((n1, .inl (D.1 22, T.length, qv f1)) :: ((l0, .inl (D.1 20, A.length, .inl g0)) :: ((l1, .inl (D.1 20, B.length, .inl g1)) :: ((q0, .inl (D.1 22, M0.length, qv F0)) :: ((q298, .inl (D.1 22, M0.length - 1, qv (fillq (wof F0 c0) (M0.length - 1)))) :: va_pl Lp f))))))))))) hC.kt.2.2.2.2.2.2.1 rfl rfl (fcJ hC) dL_act_301 rfl rfl (by omega) (by omega) rfl ?_
                      refine KJ.dr ((h, .inr (3, [.ref (a 0), .ref (b 0)])) :: (wSt D a (N, T, A, B, to, pi, fe, pl, go, hi, mi, re, lo) g ++ (wSt D b s2 g2 ++ ((m, .inr (5, [.int (nI pl), .int (nI go), .int hi, .int mi, .int re, .int lo, .ref p, .ref r])) :: ((p, .inl (D.1 23, 2, qv (va_up hq0 0 (some q298)))) :: ((r, .inl (D.1 24, 2, qv hl)) :: ((n1, .inl (D.1 22, T.length, qv f1)) :: ((l0, .inl (D.1 20, A.length, .inl g0)) :: ((l1, .inl (D.1 20, B.length, .inl g1)) :: []))))))))) ((q298, .inl (D.1 22, M0.length - 1, qv (fillq (wof F0 c0) (M0.length - 1)))) :: va_pl Lp f) (q0, .inl (D.1 22, M0.length, qv F0)) (by simp only [List.append_assoc, List.cons_append, List.nil_append]) (by simp only [List.append_assoc, List.cons_append, List.nil_append]) (ws' := ((h, .inr (3, [.ref (a 0), .ref (b 0)])) :: (wSt D a (N, T, A, B, to, pi, fe, pl, go, hi, mi, re, lo) g ++ (wSt D b s2 g2 ++ ((m, .inr (5, [.int (nI pl), .int (nI go), .int hi, .int mi, .int re, .int lo, .ref p, .ref r])) :: ((p, .inl (D.1 23, 2, qv (va_up hq0 0 (some q298)))) :: ((r, .inl (D.1 24, 2, qv hl)) :: ((n1, .inl (D.1 22, T.length, qv f1)) :: ((l0, .inl (D.1 20, A.length, .inl g0)) :: ((l1, .inl (D.1 20, B.length, .inl g1)) :: ((q298, .inl (D.1 22, M0.length - 1, qv (fillq (wof F0 c0) (M0.length - 1)))) :: va_pl Lp f))))))))))) ?_
                      refine KJ.fw ((h, .inr (3, [.ref (a 0), .ref (b 0)])) :: (wSt D a (N, T, A, B, to, pi, fe, pl, go, hi, mi, re, lo) g ++ (wSt D b s2 g2 ++ ((m, .inr (5, [.int (nI pl), .int (nI go), .int hi, .int mi, .int re, .int lo, .ref p, .ref r])) :: ((p, .inl (D.1 23, 2, qv (va_up hq0 0 (some q298)))) :: ((r, .inl (D.1 24, 2, qv hl)) :: [])))))) ((n1, .inl (D.1 22, T.length, qv f1)) :: ((l0, .inl (D.1 20, A.length, .inl g0)) :: ((l1, .inl (D.1 20, B.length, .inl g1)) :: []))) (va_pl Lp f) (q298, .inl (D.1 22, M0.length - 1, qv (fillq (wof F0 c0) (M0.length - 1)))) (by simp only [List.append_assoc, List.cons_append, List.nil_append]) (by simp only [List.append_assoc, List.cons_append, List.nil_append]) (ws' := ((h, .inr (3, [.ref (a 0), .ref (b 0)])) :: (wSt D a (N, T, A, B, to, pi, fe, pl, go, hi, mi, re, lo) g ++ (wSt D b s2 g2 ++ ((m, .inr (5, [.int (nI pl), .int (nI go), .int hi, .int mi, .int re, .int lo, .ref p, .ref r])) :: ((p, .inl (D.1 23, 2, qv (va_up hq0 0 (some q298)))) :: ((r, .inl (D.1 24, 2, qv hl)) :: ((q298, .inl (D.1 22, M0.length - 1, qv (fillq (wof F0 c0) (M0.length - 1)))) :: ((n1, .inl (D.1 22, T.length, qv f1)) :: ((l0, .inl (D.1 20, A.length, .inl g0)) :: ((l1, .inl (D.1 20, B.length, .inl g1)) :: va_pl Lp f))))))))))) ?_
                      refine KJ.eqw (ws' := ((h, .inr (3, [.ref (a 0), .ref (b 0)])) :: (wSt D a (N, T, A, B, to, pi, fe, pl, go, hi, mi, re, lo) g ++ (wSt D b s2 g2 ++ ((m, .inr (5, [.int (nI pl), .int (nI go), .int hi, .int mi, .int re, .int lo, .ref p, .ref r])) :: ((p, .inl (D.1 23, 2, qv (va_up hq0 0 (some q298)))) :: ((r, .inl (D.1 24, 2, qv hl)) :: ((q298, .inl (D.1 22, (M0.eraseIdx c0).length, qv (fillq (wof F0 c0) (M0.length - 1)))) :: ((n1, .inl (D.1 22, T.length, qv f1)) :: ((l0, .inl (D.1 20, A.length, .inl g0)) :: ((l1, .inl (D.1 20, B.length, .inl g1)) :: va_pl Lp f))))))))))) (by rw [List.length_eraseIdx_of_lt hcL]) ?_
                      refine k_iinc hC 302 0 (nI c0 - nI 1) [(6, .int (nI c0 - nI 1)), (5, .int (nI 0)), (4, .ref (adr kd)), (3, .int (nI kd)), (0, .ref h), (1, .ref m), (2, .int zz)] dL_act_302 rfl (m1_m c0) (by decide) rfl ?_
                      refine k_goto hC 305 263 dL_act_305 (by decide) ?_
                      exact KJ.wide (by omega) (by omega) (ih263 c0 q298 _ _ (M0.eraseIdx c0) 1 (by omega) (by rw [List.length_eraseIdx_of_lt hcL]; omega) (va_up_self _ _ _) ((va_up_ne _ _ (by decide)).trans z0) (hR0.cut hcL) (fun z hz => hM0 z (List.mem_of_mem_eraseIdx hz)) (Or.inr ⟨by rw [← hea.1, hMN], rfl, hea.2⟩))
            exact KJ.wide (by omega) (by omega) (loop263 (N.length + 1) N.length n0 _ _ N 0 (by omega) (Nat.le_refl _) s0 s1 j0 (fun z hz => hz) (Or.inl ⟨rfl, rfl, fun j h1 h2 => absurd h1 (by omega)⟩))
        · skip
          refine k_iconst hC 240 dL_act_240 (nI 1) (by decide) ?_
          exact k_iret hC hE 241 (s, g, s2, g2, x) dL_act_241 rfl (⟨rfl, hO, Nat.le_refl _⟩) rfl ⟨Nat.zero_le _, Nat.zero_le _⟩
      · skip
        refine k_tableIn hC 40 333 dL_act_40 (by decide) (by decide) rfl (by decide) ?_
        refine KJ.lvp [1, 2, 3, 4] rfl ?_
        exact cut333
      · skip
        refine k_tableIn hC 40 385 dL_act_40 (by decide) (by decide) rfl (by decide) ?_
        refine KJ.lvp [1, 2, 3, 4] rfl ?_
        exact cut385
      · skip
        refine k_tableIn hC 40 426 dL_act_40 (by decide) (by decide) rfl (by decide) ?_
        refine KJ.lvp [1, 2, 3, 4] rfl ?_
        exact cut426
      · skip
        refine k_tableOut hC 40 475 dL_act_40 (Or.inr (by rw [nI_toInt (by omega)]; omega)) (by decide) ?_
        refine KJ.lvp [1, 2, 3, 4] rfl ?_
        exact cut475
    · skip
      refine k_istore_n hC 23 3 [(3, .int (nI kd)), (0, .ref h), (1, .ref m), (2, .int zz)] dL_act_23 rfl (by decide) rfl ?_
      refine k_aload_n hC 24 dL_act_24 rfl ?_
      refine k_iload_n hC 25 dL_act_25 rfl ?_
      refine f_callVe hC 26 31 ((h, .inr (3, [.ref (a 0), .ref (b 0)])) :: (wSt D a s g ++ wSt D b s2 g2)) (fun u => ((h, .inr (3, [.ref (a 0), .ref (b 0)])) :: (wSt D a s g ++ (wSt D b s2 g2 ++ (wSm D m p r s x))))) (f_find_no l D m p r s x kd hW hJ hk hin) cw_RL_25 dL_act_26 ⟨Nat.le_of_ble_eq_true rfl, Nat.le_of_ble_eq_true rfl, Nat.le_of_ble_eq_true rfl, Nat.le_of_ble_eq_true rfl⟩ rfl (Nat.le_of_ble_eq_true rfl) rfl rfl rfl (by simp only [List.append_assoc, List.cons_append, List.nil_append, List.append_nil]) (fun _ => Nat.le_refl _) (fun _ => by simp only [List.append_assoc, List.cons_append, List.nil_append, List.append_nil]) _ rfl (fun v u hp => ?_)
      obtain rfl := hp
      refine KJ.eqs (st' := .null :: []) rfl ?_
      refine k_astoreN hC 29 4 [(4, .null), (3, .int (nI kd)), (0, .ref h), (1, .ref m), (2, .int zz)] dL_act_29 (by decide) rfl ?_
      refine k_iload_n hC 31 dL_act_31 rfl ?_
      refine k_bipush hC 32 dL_act_32 (nI 9) (by decide) ?_
      refine k_ishr hC 34 dL_act_34 (KJ.topi (y := (zz >>> ((nI 9) &&& 31))) rfl ?_)
      refine k_bipush hC 35 dL_act_35 (nI 22) (by decide) ?_
      refine f_callS hC 37 ([]) ((h, .inr (3, [.ref (a 0), .ref (b 0)])) :: (wSt D a s g ++ (wSt D b s2 g2 ++ (wSm D m p r s x)))) (fun (b37 : Nat) => ((h, .inr (3, [.ref (a 0), .ref (b 0)])) :: (wSt D a s g ++ (wSt D b s2 g2 ++ (wSm D m p r s x))))) (c_L_below l D _ 22 (by decide) (by decide)) cw_RL_19 dL_act_37 ⟨Nat.le_of_ble_eq_true rfl, Nat.le_of_ble_eq_true rfl, Nat.le_of_ble_eq_true rfl, Nat.le_of_ble_eq_true rfl⟩ rfl (Nat.le_of_ble_eq_true rfl) rfl (fun _ => rfl) (fun _ => rfl) _ rfl (fun v (b37 : Nat) hp => ?_)
      obtain ⟨rfl, hb37⟩ := hp
      refine KJ.eqs (st' := .int (nI b37) :: []) rfl ?_
      rcases (show b37 = 0 ∨ b37 = 1 ∨ b37 = 2 ∨ b37 = 3 ∨ b37 = 4 ∨ b37 = 5 ∨ b37 = 6 ∨ b37 = 7 ∨ b37 = 8 ∨ 8 < b37 by omega) with rfl | rfl | rfl | rfl | rfl | rfl | rfl | rfl | rfl | hb8
      · skip
        refine k_tableIn hC 40 92 dL_act_40 (by decide) (by decide) rfl (by decide) ?_
        refine k_aloadN hC 92 dL_act_92 rfl ?_
        refine k_ifnullN hC 94 107 dL_act_94 (by decide) ?_
        refine k_iconst hC 107 dL_act_107 (nI 1) (by decide) ?_
        exact k_iret hC hE 108 (s, g, s2, g2, x) dL_act_108 rfl (⟨rfl, hO, Nat.le_refl _⟩) rfl ⟨Nat.zero_le _, Nat.zero_le _⟩
      · skip
        refine k_tableIn hC 40 92 dL_act_40 (by decide) (by decide) rfl (by decide) ?_
        refine k_aloadN hC 92 dL_act_92 rfl ?_
        refine k_ifnullN hC 94 107 dL_act_94 (by decide) ?_
        refine k_iconst hC 107 dL_act_107 (nI 1) (by decide) ?_
        exact k_iret hC hE 108 (s, g, s2, g2, x) dL_act_108 rfl (⟨rfl, hO, Nat.le_refl _⟩) rfl ⟨Nat.zero_le _, Nat.zero_le _⟩
      · skip
        refine k_tableIn hC 40 139 dL_act_40 (by decide) (by decide) rfl (by decide) ?_
        refine k_iconst hC 139 dL_act_139 (nI 0) (by decide) ?_
        refine k_istore hC 140 5 [(5, .int (nI 0)), (4, .null), (3, .int (nI kd)), (0, .ref h), (1, .ref m), (2, .int zz)] dL_act_140 (by decide) rfl ?_
        refine KJ.eql (lv' := [(5, .int (nI 0)), (4, fV s x kd), (3, .int (nI kd)), (0, .ref h), (1, .ref m), (2, .int zz)]) (by rw [fV_no hin]) ?_
        refine KJ.lvp [0, 1, 2, 3, 4, 5] rfl ?_
        exact cut142 41 0 kd (by omega) (by omega) hk
      · skip
        refine k_tableIn hC 40 139 dL_act_40 (by decide) (by decide) rfl (by decide) ?_
        refine k_iconst hC 139 dL_act_139 (nI 0) (by decide) ?_
        refine k_istore hC 140 5 [(5, .int (nI 0)), (4, .null), (3, .int (nI kd)), (0, .ref h), (1, .ref m), (2, .int zz)] dL_act_140 (by decide) rfl ?_
        refine KJ.eql (lv' := [(5, .int (nI 0)), (4, fV s x kd), (3, .int (nI kd)), (0, .ref h), (1, .ref m), (2, .int zz)]) (by rw [fV_no hin]) ?_
        refine KJ.lvp [0, 1, 2, 3, 4, 5] rfl ?_
        exact cut142 41 0 kd (by omega) (by omega) hk
      · skip
        refine k_tableIn hC 40 139 dL_act_40 (by decide) (by decide) rfl (by decide) ?_
        refine k_iconst hC 139 dL_act_139 (nI 0) (by decide) ?_
        refine k_istore hC 140 5 [(5, .int (nI 0)), (4, .null), (3, .int (nI kd)), (0, .ref h), (1, .ref m), (2, .int zz)] dL_act_140 (by decide) rfl ?_
        refine KJ.eql (lv' := [(5, .int (nI 0)), (4, fV s x kd), (3, .int (nI kd)), (0, .ref h), (1, .ref m), (2, .int zz)]) (by rw [fV_no hin]) ?_
        refine KJ.lvp [0, 1, 2, 3, 4, 5] rfl ?_
        exact cut142 41 0 kd (by omega) (by omega) hk
      · skip
        refine k_tableIn hC 40 227 dL_act_40 (by decide) (by decide) rfl (by decide) ?_
        refine k_aloadN hC 227 dL_act_227 rfl ?_
        refine k_ifnullN hC 229 240 dL_act_229 (by decide) ?_
        refine k_iconst hC 240 dL_act_240 (nI 1) (by decide) ?_
        exact k_iret hC hE 241 (s, g, s2, g2, x) dL_act_241 rfl (⟨rfl, hO, Nat.le_refl _⟩) rfl ⟨Nat.zero_le _, Nat.zero_le _⟩
      · skip
        refine k_tableIn hC 40 333 dL_act_40 (by decide) (by decide) rfl (by decide) ?_
        refine KJ.lvp [1, 2, 3, 4] rfl ?_
        exact cut333
      · skip
        refine k_tableIn hC 40 385 dL_act_40 (by decide) (by decide) rfl (by decide) ?_
        refine KJ.lvp [1, 2, 3, 4] rfl ?_
        exact cut385
      · skip
        refine k_tableIn hC 40 426 dL_act_40 (by decide) (by decide) rfl (by decide) ?_
        refine KJ.lvp [1, 2, 3, 4] rfl ?_
        exact cut426
      · skip
        refine k_tableOut hC 40 475 dL_act_40 (Or.inr (by rw [nI_toInt (by omega)]; omega)) (by decide) ?_
        refine KJ.lvp [1, 2, 3, 4] rfl ?_
        exact cut475
  refine k_iload_n hC 0 dL_act_0 rfl ?_
  refine k_iconst hC 1 dL_act_1 (nI 1) (by decide) ?_
  refine k_ishr hC 2 dL_act_2 (KJ.topi (y := (zz >>> ((nI 1) &&& 31))) rfl ?_)
  refine k_iload_n hC 3 dL_act_3 rfl ?_
  refine k_iconst hC 4 dL_act_4 (nI 5) (by decide) ?_
  refine k_ishr hC 5 dL_act_5 (KJ.topi (y := (zz >>> ((nI 5) &&& 31))) rfl ?_)
  refine k_iconst hC 6 dL_act_6 (nI 3) (by decide) ?_
  refine f_callS hC 7 ([]) ((h, .inr (3, [.ref (a 0), .ref (b 0)])) :: (wSt D a s g ++ (wSt D b s2 g2 ++ (wSm D m p r s x)))) (fun (b7 : Nat) => ((h, .inr (3, [.ref (a 0), .ref (b 0)])) :: (wSt D a s g ++ (wSt D b s2 g2 ++ (wSm D m p r s x))))) (c_L_below l D _ 3 (by decide) (by decide)) cw_RL_19 dL_act_7 ⟨Nat.le_of_ble_eq_true rfl, Nat.le_of_ble_eq_true rfl, Nat.le_of_ble_eq_true rfl, Nat.le_of_ble_eq_true rfl⟩ rfl (Nat.le_of_ble_eq_true rfl) rfl (fun _ => rfl) (fun _ => rfl) _ rfl (fun v (b7 : Nat) hp => ?_)
  obtain ⟨rfl, hb7⟩ := hp
  refine KJ.eqs (st' := .int (nI b7) :: .int (zz >>> ((nI 1) &&& 31)) :: []) rfl ?_
  refine n_if_ne hC 10 18 dL_act_10 (by decide) (by omega) (fun h10 => ?_) (fun h10 => ?_)
  · skip
    refine k_bipush hC 18 dL_act_18 (nI 11) (by decide) ?_
    refine f_callS hC 20 ([]) ((h, .inr (3, [.ref (a 0), .ref (b 0)])) :: (wSt D a s g ++ (wSt D b s2 g2 ++ (wSm D m p r s x)))) (fun (b20 : Nat) => ((h, .inr (3, [.ref (a 0), .ref (b 0)])) :: (wSt D a s g ++ (wSt D b s2 g2 ++ (wSm D m p r s x))))) (c_L_below l D _ 11 (by decide) (by decide)) cw_RL_19 dL_act_20 ⟨Nat.le_of_ble_eq_true rfl, Nat.le_of_ble_eq_true rfl, Nat.le_of_ble_eq_true rfl, Nat.le_of_ble_eq_true rfl⟩ rfl (Nat.le_of_ble_eq_true rfl) rfl (fun _ => rfl) (fun _ => rfl) _ rfl (fun v (b20 : Nat) hp => ?_)
    obtain ⟨rfl, hb20⟩ := hp
    refine KJ.eqs (st' := .int (nI b20) :: []) rfl ?_
    exact cut23 b20 (by omega)
  · skip
    refine k_bipush hC 13 dL_act_13 (nI 40) (by decide) ?_
    refine k_goto hC 15 20 dL_act_15 (by decide) ?_
    refine f_callS hC 20 ([]) ((h, .inr (3, [.ref (a 0), .ref (b 0)])) :: (wSt D a s g ++ (wSt D b s2 g2 ++ (wSm D m p r s x)))) (fun (b20 : Nat) => ((h, .inr (3, [.ref (a 0), .ref (b 0)])) :: (wSt D a s g ++ (wSt D b s2 g2 ++ (wSm D m p r s x))))) (c_L_below l D _ 40 (by decide) (by decide)) cw_RL_19 dL_act_20 ⟨Nat.le_of_ble_eq_true rfl, Nat.le_of_ble_eq_true rfl, Nat.le_of_ble_eq_true rfl, Nat.le_of_ble_eq_true rfl⟩ rfl (Nat.le_of_ble_eq_true rfl) rfl (fun _ => rfl) (fun _ => rfl) _ rfl (fun v (b20 : Nat) hp => ?_)
    obtain ⟨rfl, hb20⟩ := hp
    refine KJ.eqs (st' := .int (nI b20) :: []) rfl ?_
    exact cut23 b20 (by omega)
