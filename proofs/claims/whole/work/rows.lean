section
-- ===== PART A: goes FIRST, ahead of the names: the tables' words, and 'selects' of the private methods out of them =====
/-- a private method of a class that the tables say can be made, by its rows of tables_1 -/
def lw_okq (q : MethodName × Nat) : Prop := (q.1.cls ≠ "java/lang/invoke/MethodHandle" ∧ q.1.cls ≠ "java/lang/invoke/VarHandle") ∧ Cond.instantiable q.1.cls q.2 ∈ tables_1 ∧ Cond.privateMethod q.1 ∈ tables_1 ∧ Cond.instanceMethod q.1 ∈ tables_1
theorem lw_p0 : lw_okq (⟨"PinnedPantry$Store", "givingShelf", "()I"⟩, 13) := ⟨⟨by decide +kernel, by decide +kernel⟩, List.mem_of_getElem? (i := 23) (by decide +kernel), List.mem_of_getElem? (i := 145) (by decide +kernel), List.mem_of_getElem? (i := 146) (by decide +kernel)⟩
theorem lw_p1 : lw_okq (⟨"java/lang/Throwable", "fillInStackTrace", "(I)Ljava/lang/Throwable;"⟩, 6) := ⟨⟨by decide +kernel, by decide +kernel⟩, List.mem_of_getElem? (i := 271) (by decide +kernel), List.mem_of_getElem? (i := 269) (by decide +kernel), List.mem_of_getElem? (i := 270) (by decide +kernel)⟩
theorem lw_p2 : lw_okq (⟨"PinnedPantry$Store", "recall", "(II)V"⟩, 13) := ⟨⟨by decide +kernel, by decide +kernel⟩, List.mem_of_getElem? (i := 23) (by decide +kernel), List.mem_of_getElem? (i := 309) (by decide +kernel), List.mem_of_getElem? (i := 310) (by decide +kernel)⟩
theorem lw_p3 : lw_okq (⟨"PinnedPantry$Store", "placeNewJar", "(ILPinnedPantry$Row;)V"⟩, 13) := ⟨⟨by decide +kernel, by decide +kernel⟩, List.mem_of_getElem? (i := 23) (by decide +kernel), List.mem_of_getElem? (i := 321) (by decide +kernel), List.mem_of_getElem? (i := 322) (by decide +kernel)⟩
theorem lw_p4 : lw_okq (⟨"PinnedPantry", "requireJar", "(I)V"⟩, 2) := ⟨⟨by decide +kernel, by decide +kernel⟩, List.mem_of_getElem? (i := 15) (by decide +kernel), List.mem_of_getElem? (i := 381) (by decide +kernel), List.mem_of_getElem? (i := 382) (by decide +kernel)⟩
theorem lw_p5 : lw_okq (⟨"PinnedPantryModel", "fail", "(I)I"⟩, 5) := ⟨⟨by decide +kernel, by decide +kernel⟩, List.mem_of_getElem? (i := 501) (by decide +kernel), List.mem_of_getElem? (i := 537) (by decide +kernel), List.mem_of_getElem? (i := 538) (by decide +kernel)⟩
theorem lw_p6 : lw_okq (⟨"PinnedPantryModel", "canFetch", "(I)Z"⟩, 5) := ⟨⟨by decide +kernel, by decide +kernel⟩, List.mem_of_getElem? (i := 501) (by decide +kernel), List.mem_of_getElem? (i := 541) (by decide +kernel), List.mem_of_getElem? (i := 542) (by decide +kernel)⟩
theorem lw_p7 : lw_okq (⟨"PinnedPantryModel", "isThere", "(I)Z"⟩, 5) := ⟨⟨by decide +kernel, by decide +kernel⟩, List.mem_of_getElem? (i := 501) (by decide +kernel), List.mem_of_getElem? (i := 545) (by decide +kernel), List.mem_of_getElem? (i := 546) (by decide +kernel)⟩
theorem lw_p8 : lw_okq (⟨"PinnedPantryModel", "ja", "(II)I"⟩, 5) := ⟨⟨by decide +kernel, by decide +kernel⟩, List.mem_of_getElem? (i := 501) (by decide +kernel), List.mem_of_getElem? (i := 549) (by decide +kernel), List.mem_of_getElem? (i := 550) (by decide +kernel)⟩
theorem lw_p9 : lw_okq (⟨"PinnedPantryModel", "all", "()I"⟩, 5) := ⟨⟨by decide +kernel, by decide +kernel⟩, List.mem_of_getElem? (i := 501) (by decide +kernel), List.mem_of_getElem? (i := 553) (by decide +kernel), List.mem_of_getElem? (i := 554) (by decide +kernel)⟩
theorem lw_p10 : lw_okq (⟨"PinnedPantryModel", "many", "(I)I"⟩, 5) := ⟨⟨by decide +kernel, by decide +kernel⟩, List.mem_of_getElem? (i := 501) (by decide +kernel), List.mem_of_getElem? (i := 557) (by decide +kernel), List.mem_of_getElem? (i := 558) (by decide +kernel)⟩
theorem lw_p11 : lw_okq (⟨"PinnedPantryModel", "pinned", "()I"⟩, 5) := ⟨⟨by decide +kernel, by decide +kernel⟩, List.mem_of_getElem? (i := 501) (by decide +kernel), List.mem_of_getElem? (i := 561) (by decide +kernel), List.mem_of_getElem? (i := 562) (by decide +kernel)⟩
theorem lw_p12 : lw_okq (⟨"PinnedPantryModel", "fetched", "(I)I"⟩, 5) := ⟨⟨by decide +kernel, by decide +kernel⟩, List.mem_of_getElem? (i := 501) (by decide +kernel), List.mem_of_getElem? (i := 565) (by decide +kernel), List.mem_of_getElem? (i := 566) (by decide +kernel)⟩
theorem lw_p13 : lw_okq (⟨"PinnedPantryModel", "listOf", "(I)I"⟩, 5) := ⟨⟨by decide +kernel, by decide +kernel⟩, List.mem_of_getElem? (i := 501) (by decide +kernel), List.mem_of_getElem? (i := 569) (by decide +kernel), List.mem_of_getElem? (i := 570) (by decide +kernel)⟩
theorem lw_p14 : lw_okq (⟨"PinnedPantryModel", "listPlace", "(II)I"⟩, 5) := ⟨⟨by decide +kernel, by decide +kernel⟩, List.mem_of_getElem? (i := 501) (by decide +kernel), List.mem_of_getElem? (i := 573) (by decide +kernel), List.mem_of_getElem? (i := 574) (by decide +kernel)⟩
theorem lw_p15 : lw_okq (⟨"PinnedPantryModel", "listed", "(I)I"⟩, 5) := ⟨⟨by decide +kernel, by decide +kernel⟩, List.mem_of_getElem? (i := 501) (by decide +kernel), List.mem_of_getElem? (i := 577) (by decide +kernel), List.mem_of_getElem? (i := 578) (by decide +kernel)⟩
def lw_privs_1 : List (MethodName × Nat) := [(⟨"PinnedPantry$Store", "givingShelf", "()I"⟩, 13), (⟨"java/lang/Throwable", "fillInStackTrace", "(I)Ljava/lang/Throwable;"⟩, 6), (⟨"PinnedPantry$Store", "recall", "(II)V"⟩, 13), (⟨"PinnedPantry$Store", "placeNewJar", "(ILPinnedPantry$Row;)V"⟩, 13), (⟨"PinnedPantry", "requireJar", "(I)V"⟩, 2), (⟨"PinnedPantryModel", "fail", "(I)I"⟩, 5), (⟨"PinnedPantryModel", "canFetch", "(I)Z"⟩, 5), (⟨"PinnedPantryModel", "isThere", "(I)Z"⟩, 5), (⟨"PinnedPantryModel", "ja", "(II)I"⟩, 5), (⟨"PinnedPantryModel", "all", "()I"⟩, 5), (⟨"PinnedPantryModel", "many", "(I)I"⟩, 5), (⟨"PinnedPantryModel", "pinned", "()I"⟩, 5), (⟨"PinnedPantryModel", "fetched", "(I)I"⟩, 5), (⟨"PinnedPantryModel", "listOf", "(I)I"⟩, 5), (⟨"PinnedPantryModel", "listPlace", "(II)I"⟩, 5), (⟨"PinnedPantryModel", "listed", "(I)I"⟩, 5)]
theorem lw_r1 : ∀ q ∈ lw_privs_1, lw_okq q := List.forall_mem_cons.mpr ⟨lw_p0, List.forall_mem_cons.mpr ⟨lw_p1, List.forall_mem_cons.mpr ⟨lw_p2, List.forall_mem_cons.mpr ⟨lw_p3, List.forall_mem_cons.mpr ⟨lw_p4, List.forall_mem_cons.mpr ⟨lw_p5, List.forall_mem_cons.mpr ⟨lw_p6, List.forall_mem_cons.mpr ⟨lw_p7, List.forall_mem_cons.mpr ⟨lw_p8, List.forall_mem_cons.mpr ⟨lw_p9, List.forall_mem_cons.mpr ⟨lw_p10, List.forall_mem_cons.mpr ⟨lw_p11, List.forall_mem_cons.mpr ⟨lw_p12, List.forall_mem_cons.mpr ⟨lw_p13, List.forall_mem_cons.mpr ⟨lw_p14, List.forall_mem_cons.mpr ⟨lw_p15, fun _ h => absurd h List.not_mem_nil⟩⟩⟩⟩⟩⟩⟩⟩⟩⟩⟩⟩⟩⟩⟩⟩
theorem lw_p16 : lw_okq (⟨"PinnedPantryModel", "listedAt", "(II)I"⟩, 5) := ⟨⟨by decide +kernel, by decide +kernel⟩, List.mem_of_getElem? (i := 501) (by decide +kernel), List.mem_of_getElem? (i := 581) (by decide +kernel), List.mem_of_getElem? (i := 582) (by decide +kernel)⟩
theorem lw_p17 : lw_okq (⟨"PinnedPantryModel", "takeOff", "(II)V"⟩, 5) := ⟨⟨by decide +kernel, by decide +kernel⟩, List.mem_of_getElem? (i := 501) (by decide +kernel), List.mem_of_getElem? (i := 587) (by decide +kernel), List.mem_of_getElem? (i := 588) (by decide +kernel)⟩
theorem lw_p18 : lw_okq (⟨"PinnedPantryModel", "sweep", "()I"⟩, 5) := ⟨⟨by decide +kernel, by decide +kernel⟩, List.mem_of_getElem? (i := 501) (by decide +kernel), List.mem_of_getElem? (i := 594) (by decide +kernel), List.mem_of_getElem? (i := 595) (by decide +kernel)⟩
theorem lw_p19 : lw_okq (⟨"PinnedPantryModel", "canGive", "(I)Z"⟩, 5) := ⟨⟨by decide +kernel, by decide +kernel⟩, List.mem_of_getElem? (i := 501) (by decide +kernel), List.mem_of_getElem? (i := 598) (by decide +kernel), List.mem_of_getElem? (i := 599) (by decide +kernel)⟩
theorem lw_p20 : lw_okq (⟨"PinnedPantryModel", "kindAt", "(II)I"⟩, 5) := ⟨⟨by decide +kernel, by decide +kernel⟩, List.mem_of_getElem? (i := 501) (by decide +kernel), List.mem_of_getElem? (i := 602) (by decide +kernel), List.mem_of_getElem? (i := 603) (by decide +kernel)⟩
theorem lw_p21 : lw_okq (⟨"PinnedPantryModel", "takeOut", "(II)V"⟩, 5) := ⟨⟨by decide +kernel, by decide +kernel⟩, List.mem_of_getElem? (i := 501) (by decide +kernel), List.mem_of_getElem? (i := 606) (by decide +kernel), List.mem_of_getElem? (i := 607) (by decide +kernel)⟩
theorem lw_p22 : lw_okq (⟨"PinnedPantryModel", "putLast", "(II)V"⟩, 5) := ⟨⟨by decide +kernel, by decide +kernel⟩, List.mem_of_getElem? (i := 501) (by decide +kernel), List.mem_of_getElem? (i := 610) (by decide +kernel), List.mem_of_getElem? (i := 611) (by decide +kernel)⟩
theorem lw_p23 : lw_okq (⟨"PinnedPantryModel", "remember", "(II)V"⟩, 5) := ⟨⟨by decide +kernel, by decide +kernel⟩, List.mem_of_getElem? (i := 501) (by decide +kernel), List.mem_of_getElem? (i := 614) (by decide +kernel), List.mem_of_getElem? (i := 615) (by decide +kernel)⟩
theorem lw_p24 : lw_okq (⟨"PinnedPantryModel", "forget", "(I)V"⟩, 5) := ⟨⟨by decide +kernel, by decide +kernel⟩, List.mem_of_getElem? (i := 501) (by decide +kernel), List.mem_of_getElem? (i := 618) (by decide +kernel), List.mem_of_getElem? (i := 619) (by decide +kernel)⟩
theorem lw_p25 : lw_okq (⟨"PinnedPantryModel", "wrong", "(III)I"⟩, 5) := ⟨⟨by decide +kernel, by decide +kernel⟩, List.mem_of_getElem? (i := 501) (by decide +kernel), List.mem_of_getElem? (i := 626) (by decide +kernel), List.mem_of_getElem? (i := 627) (by decide +kernel)⟩
theorem lw_p26 : lw_okq (⟨"PinnedPantryModel", "hits", "(III)I"⟩, 5) := ⟨⟨by decide +kernel, by decide +kernel⟩, List.mem_of_getElem? (i := 501) (by decide +kernel), List.mem_of_getElem? (i := 630) (by decide +kernel), List.mem_of_getElem? (i := 631) (by decide +kernel)⟩
theorem lw_p27 : lw_okq (⟨"PinnedPantryModel", "placeOf", "(I)I"⟩, 5) := ⟨⟨by decide +kernel, by decide +kernel⟩, List.mem_of_getElem? (i := 501) (by decide +kernel), List.mem_of_getElem? (i := 646) (by decide +kernel), List.mem_of_getElem? (i := 647) (by decide +kernel)⟩
theorem lw_p28 : lw_okq (⟨"PinnedPantryModel", "place", "(I)V"⟩, 5) := ⟨⟨by decide +kernel, by decide +kernel⟩, List.mem_of_getElem? (i := 501) (by decide +kernel), List.mem_of_getElem? (i := 654) (by decide +kernel), List.mem_of_getElem? (i := 655) (by decide +kernel)⟩
theorem lw_p29 : lw_okq (⟨"PinnedPantryModel", "counted", "(I)I"⟩, 5) := ⟨⟨by decide +kernel, by decide +kernel⟩, List.mem_of_getElem? (i := 501) (by decide +kernel), List.mem_of_getElem? (i := 678) (by decide +kernel), List.mem_of_getElem? (i := 679) (by decide +kernel)⟩
theorem lw_p30 : lw_okq (⟨"PinnedPantryModel", "kept", "()[[I"⟩, 5) := ⟨⟨by decide +kernel, by decide +kernel⟩, List.mem_of_getElem? (i := 501) (by decide +kernel), List.mem_of_getElem? (i := 686) (by decide +kernel), List.mem_of_getElem? (i := 687) (by decide +kernel)⟩
theorem lw_p31 : lw_okq (⟨"PinnedPantryModel", "bringBack", "([[I)V"⟩, 5) := ⟨⟨by decide +kernel, by decide +kernel⟩, List.mem_of_getElem? (i := 501) (by decide +kernel), List.mem_of_getElem? (i := 698) (by decide +kernel), List.mem_of_getElem? (i := 699) (by decide +kernel)⟩
def lw_privs_2 : List (MethodName × Nat) := [(⟨"PinnedPantryModel", "listedAt", "(II)I"⟩, 5), (⟨"PinnedPantryModel", "takeOff", "(II)V"⟩, 5), (⟨"PinnedPantryModel", "sweep", "()I"⟩, 5), (⟨"PinnedPantryModel", "canGive", "(I)Z"⟩, 5), (⟨"PinnedPantryModel", "kindAt", "(II)I"⟩, 5), (⟨"PinnedPantryModel", "takeOut", "(II)V"⟩, 5), (⟨"PinnedPantryModel", "putLast", "(II)V"⟩, 5), (⟨"PinnedPantryModel", "remember", "(II)V"⟩, 5), (⟨"PinnedPantryModel", "forget", "(I)V"⟩, 5), (⟨"PinnedPantryModel", "wrong", "(III)I"⟩, 5), (⟨"PinnedPantryModel", "hits", "(III)I"⟩, 5), (⟨"PinnedPantryModel", "placeOf", "(I)I"⟩, 5), (⟨"PinnedPantryModel", "place", "(I)V"⟩, 5), (⟨"PinnedPantryModel", "counted", "(I)I"⟩, 5), (⟨"PinnedPantryModel", "kept", "()[[I"⟩, 5), (⟨"PinnedPantryModel", "bringBack", "([[I)V"⟩, 5)]
theorem lw_r2 : ∀ q ∈ lw_privs_2, lw_okq q := List.forall_mem_cons.mpr ⟨lw_p16, List.forall_mem_cons.mpr ⟨lw_p17, List.forall_mem_cons.mpr ⟨lw_p18, List.forall_mem_cons.mpr ⟨lw_p19, List.forall_mem_cons.mpr ⟨lw_p20, List.forall_mem_cons.mpr ⟨lw_p21, List.forall_mem_cons.mpr ⟨lw_p22, List.forall_mem_cons.mpr ⟨lw_p23, List.forall_mem_cons.mpr ⟨lw_p24, List.forall_mem_cons.mpr ⟨lw_p25, List.forall_mem_cons.mpr ⟨lw_p26, List.forall_mem_cons.mpr ⟨lw_p27, List.forall_mem_cons.mpr ⟨lw_p28, List.forall_mem_cons.mpr ⟨lw_p29, List.forall_mem_cons.mpr ⟨lw_p30, List.forall_mem_cons.mpr ⟨lw_p31, fun _ h => absurd h List.not_mem_nil⟩⟩⟩⟩⟩⟩⟩⟩⟩⟩⟩⟩⟩⟩⟩⟩
theorem lw_p32 : lw_okq (⟨"PinnedPantryModel", "told", "(I)I"⟩, 5) := ⟨⟨by decide +kernel, by decide +kernel⟩, List.mem_of_getElem? (i := 501) (by decide +kernel), List.mem_of_getElem? (i := 706) (by decide +kernel), List.mem_of_getElem? (i := 707) (by decide +kernel)⟩
def lw_privs_3 : List (MethodName × Nat) := [(⟨"PinnedPantryModel", "told", "(I)I"⟩, 5)]
theorem lw_r3 : ∀ q ∈ lw_privs_3, lw_okq q := List.forall_mem_cons.mpr ⟨lw_p32, fun _ h => absurd h List.not_mem_nil⟩
def lw_privs : List (MethodName × Nat) := lw_privs_1 ++ (lw_privs_2 ++ (lw_privs_3))
def lw_tbl : List Cond := k2_sels lw_privs ++ tables_1
theorem lw_privs_ok : ∀ q ∈ lw_privs, lw_okq q := by
  show ∀ q ∈ lw_privs_1 ++ (lw_privs_2 ++ (lw_privs_3)), lw_okq q
  exact List.forall_mem_append.mpr ⟨lw_r1, List.forall_mem_append.mpr ⟨lw_r2, lw_r3⟩⟩
/-- the streams that the claim lets the run draw from -/
abbrev lw_cs : List Choice := [Jvm.Choice.named "NaN.bits"]
theorem lw_bits : nanBits ∈ lw_cs := by first | decide | exact List.mem_cons_self | simp [lw_cs, nanBits]
-- ===== end of PART A; then your names; then what follows =====
end
section
/-! ===== BEGIN words of one list among another's, by their places ===== -/
theorem goodIn_r {big : List Cond} (ws : List Cond) (ps : List Nat) (hp : ws = ps.filterMap (fun i => big[i]?)) (h : ws.all goodWord = true) : GoodIn big ws := by
  intro w hw
  have h1 := List.all_eq_true.mp h w hw
  rw [hp] at hw
  obtain ⟨i, -, hi⟩ := List.mem_filterMap.mp hw
  have hm : w ∈ big := by first | exact List.mem_of_getElem? hi | exact List.getElem?_mem hi
  exact ⟨hm, good_of_word h1⟩
theorem goodIn_app {big a b : List Cond} (ha : GoodIn big a) (hb : GoodIn big b) : GoodIn big (a ++ b) := fun w h => (List.mem_append.mp h).elim (ha w) (hb w)
theorem goodIn_ca {big a b : List Cond} {c : Cond} (ha : GoodIn big (c :: a)) (hb : GoodIn big b) : GoodIn big (c :: (a ++ b)) := fun w h => (List.mem_cons.mp h).elim (fun e => ha w (List.mem_cons.mpr (Or.inl e))) (fun h => (List.mem_append.mp h).elim (fun h => ha w (List.mem_cons.mpr (Or.inr h))) (hb w))
theorem goodIn_sub {big ws : List Cond} (hm : ∀ w ∈ ws, w ∈ big) (h : ws.all goodWord = true) : GoodIn big ws := fun w hw => ⟨hm w hw, good_of_word (List.all_eq_true.mp h w hw)⟩
/-! ===== END ===== -/

/-! ===== BEGIN exceptions that leave a method, and their catching by the caller (launches without stack traces) ===== -/
section VXA
/-! The laws vx_back, vx_callV, vx_callS, vx_callSW, vx_throw0, vx_throwS follow proofs of the library, with one case more: JvmDerived/Free/Laws.lean (Back.of_free), Shelf42/LK1.lean (callV, callS), Shelf/KitTraced.lean (throwNew0V, throwNewS). -/
/-- where a method has thrown q: the class by its name, the cell, what was written, the world -/
def vx_T (XC : String → State → State → Prop) (st : State) (q : Addr) (t : State) (mc ms : Nat) (free : Addr → Prop) : Prop :=
  ∃ (E : String) (ce : Cell) (L : List Loc), XC E st t ∧ t.heap[q]? = some ce ∧ ce.vm = .none ∧ st.vm.findClass E = some ce.cls ∧ st.WarmedH t.vm ∧ st.sameButNew ({ t with vm := st.vm } : State) L mc ms ∧ ∀ z ∈ L, free z.base
def vx_Q (Qc : Array Value → State → Outcome → State → Prop) (XC : String → State → State → Prop) (mc ms : Nat) (free : Addr → Prop) : Array Value → State → Outcome → State → Prop := fun a st o t =>
  (Qc a st o t ∧ ∃ L, FrameEnd st o t L mc ms ∧ ∀ q ∈ L, free q.base) ∨ ∃ q, o = .threw q ∧ vx_T XC st q t mc ms free
/-- a callee that returns or throws -/
def vx_Met (l : Launch) (y : MethodName) (ws : List Cond) (rm : Room) (Pc : Array Value → State → Prop) (Qc : Array Value → State → Outcome → State → Prop) (XC : String → State → State → Prop) (mc ms : Nat) (free : Addr → Prop) : Prop :=
  MetFree l y (headSpec ws rm) Pc (fun _ _ _ _ _ => True) (vx_Q Qc XC mc ms free)
def vx_Post (XC : String → State → State → Prop) (mc ms : Nat) (free : Addr → Prop) : Pt → Array Value → Addr → Pt → Prop := fun A a q B =>
  ∃ (g : JFrame) (mk : MethodId) (t : State) (L : List Loc) (E : String) (ce : Cell), B.U.heap = t.heap ∧ B.U.vm = t.vm ∧ XC E (A.U.calling g mk a) t ∧ t.heap[q]? = some ce ∧ ce.vm = .none ∧ A.U.vm.findClass E = some ce.cls ∧ B.locs = A.locs ++ L ∧ (∀ z ∈ L, free z.base) ∧ B.cells = A.cells + mc ∧ B.slots = A.slots + ms
def vx_Back (l : Launch) (R : Room) (p : Program) (e : Env) (below : List Frame) (s : State) (sargs : Array Value) (y : MethodName) (len W9 : Nat)
    (Pre : Pt → Array Value → Prop) (Post : Pt → Array Value → Option Value → Pt → Prop) (PostX : Pt → Array Value → Addr → Pt → Prop) : Prop :=
  ∀ (m : MethodId) (meth : Method) (c : Code) (A : Pt) (g : JFrame) (ig : Instr) (mk : MethodId) (a : Array Value),
    Stand p l e R s m sargs below meth c A.U A.locs A.cells A.slots → g.method = m → g.locals.size = c.maxLocals → decode c.code g.pc = .ok (ig, len) →
    2 * g.monitorRoom + (g.stack.map fun v => v.category).sum ≤ W9 → A.U.methodNamed? y = some mk → Pre A a →
    (∃ (v : Option Value) (B : Pt), Stand p l e R s m sargs below meth c B.U B.locs B.cells B.slots ∧ Post A a v B ∧
      Steps p.tables e below (doInvoke e (A.U.setTop g) [] mk a).1 (B.U.setTop { g with pc := g.pc + len, stack := v.toList ++ g.stack })) ∨
    (∃ (q : Addr) (B : Pt), Stand p l e R s m sargs below meth c B.U B.locs B.cells B.slots ∧ PostX A a q B ∧
      Steps p.tables e below (doInvoke e (A.U.setTop g) [] mk a).1 ((B.U.setTop g).pushFrame (.throwing q)))
section Payer
variable {l : Launch} {R : Room} {p : Program} {e : Env} {below : List Frame} {s : State} {sargs : Array Value} {y : MethodName} {len W9 : Nat}
theorem vx_back {ws : List Cond} {rm : Room} {Pc : Array Value → State → Prop} {Qc : Array Value → State → Outcome → State → Prop} {XC : String → State → State → Prop} {mc ms : Nat} {free : Addr → Prop} {bytes : ByteArray} {maxL : Nat} {ret : Option FieldType}
    (hM : vx_Met l y ws rm Pc Qc XC mc ms free) (hblind : FrameBlind Pc) (hrc : rm.cells = mc) (hrs : rm.slots = ms)
    (hframes : rm.frames + 1 ≤ R.frames) (hlocals : W9 + (maxL + 11) + rm.locals ≤ R.locals)
    (hws : ∀ w ∈ ws, ∀ a' U, s.WarmedH U.vm → w.before a' U = true) (hcode : Cond.code y bytes maxL ret ∈ ws) (hinit : ∀ a' U, s.WarmedH U.vm → (Cond.initialized y.cls).before a' U = true) :
    vx_Back l R p e below s sargs y len W9 (PreOf R mc ms Pc) (PostOf Qc mc ms free) (vx_Post XC mc ms free) := by
  intro m meth c A g ig mk a X hg hsize hdg hW hn hp
  have h1 : (headSpec ws rm).pre.before a A.U = true := atoms_intro fun w hw => hws w hw _ _ X.warmed
  have h2 : (Cond.code y bytes maxL ret).before a A.U = true := hws _ hcode _ _ X.warmed
  have h3 : (Cond.initialized y.cls).before a A.U = true := hinit _ _ X.warmed
  have h4 : A.cells + (headSpec ws rm).room.cells ≤ R.cells := by rw [show (headSpec ws rm).room.cells = mc from hrc]; exact hp.1
  have h5 : A.slots + (headSpec ws rm).room.slots ≤ R.slots := by rw [show (headSpec ws rm).room.slots = ms from hrs]; exact hp.2.1
  have hPc : Pc a (A.U.calling g mk a) := hblind _ _ _ _ hp.2.2
  obtain ⟨U, Ls, c0, s0⟩ := A
  dsimp only [Pt.U, Pt.locs, Pt.cells, Pt.slots] at h1 h2 h3 h4 h5 X hn hPc ⊢
  obtain ⟨methY, cY, hmY, hcY, -, hlY, -, -, -, -⟩ := Cond.code_spec hn h2
  obtain ⟨kY, hkY, -⟩ := className_of_methodNamed hn
  have hinitY : kY.init = .initialized := Cond.initialized_spec (findClass_of_methodNamed hn) hkY h3
  have h : At U g.method c below := by rw [hg]; exact X.here
  have hlocals9 : W9 + (maxL + 11) + (headSpec ws rm).room.locals ≤ R.locals := hlocals
  have happ : (headSpec ws rm).appliesLoose y e.platform (U.calling g mk a) = true :=
    Spec.appliesLoose_calling (g := g) h hdg hn hkY hinitY
      (X.room_calling (g := g) (R' := (headSpec ws rm).room) hsize hmY hcY hframes (by rw [hlY]; omega) h4 h5) h1
  obtain ⟨mid, hmid⟩ := h.above
  have hfr : (U.setTop g).frames = (.java g :: mid) ++ below := by rw [State.frames_setTop' g h.top, hmid]; rfl
  obtain ⟨o, s₂, hsteps, -, hend, hq⟩ := Steps.callFree hM p X.admits X.cas X.clock (acts := []) hfr happ hPc trivial
  have hq' : vx_Q Qc XC mc ms free a (U.calling g mk a) o s₂ := hq
  rw [State.frames_setTop' g h.top] at hend
  obtain ⟨g₀, hg0⟩ := Option.isSome_iff_exists.mp h.top
  obtain ⟨r, hr⟩ := State.topJava?_eq_some.mp hg0
  have hr' : (({ U with heap := s₂.heap, slotsUsed := s₂.slotsUsed } : State).setVm s₂.vm).frames = .java g₀ :: r := hr
  rcases hq' with ⟨hqc, L, hfe, hL⟩ | ⟨q, rfl, E, ce, L, hx, hce, hcv, hcl, hW₂, hsm, hL⟩
  · obtain ⟨⟨v, rfl⟩, hW₂, e2, q2, q3, q4, q5, q6⟩ := id hfe
    have e3 : s₂ = ({ (U.calling g mk a).setFrames s₂.frames with heap := s₂.heap, slotsUsed := s₂.slotsUsed } : State).setVm s₂.vm := by
      have : s₂ = ({ s₂ with vm := (U.calling g mk a).vm } : State).setVm s₂.vm := rfl
      rw [e2] at this
      exact this
    obtain ⟨c₂, i₂, len₂, hc₂, hd₂, hf₂⟩ := hend
    have hW' : U.WarmedH s₂.vm := hW₂
    have hcc : c₂ = c := by
      have h1 : s₂.code? g.method = U.code? g.method := by
        rw [State.code?_eq, State.code?_eq, hW'.alike.method?]
      exact Option.some.inj (hc₂.symm.trans (h1.trans h.code))
    subst hcc
    have hlen : len₂ = len := by rw [hdg] at hd₂; cases hd₂; rfl
    subst hlen
    have hs₂ : s₂ = (({ U with heap := s₂.heap, slotsUsed := s₂.slotsUsed } : State).setVm s₂.vm).setTop { g with pc := g.pc + len₂, stack := v.toList ++ g.stack } := by
      refine e3.trans ?_
      rw [hf₂, State.calling_eq h.top, State.setFrames_setFrames, State.setTop_of_frames _ hr', hr]
      rfl
    have hsame : U.sameButNew ({ U with heap := s₂.heap, slotsUsed := s₂.slotsUsed } : State) L mc ms := by
      refine ⟨?_, q2, q3, q4, q5, q6⟩
      obtain ⟨t, ht, -⟩ := State.frames_cons hr
      show ({ U with heap := s₂.heap, slotsUsed := s₂.slotsUsed } : State) = { U.setFrames U.frames with heap := s₂.heap, slotsUsed := s₂.slotsUsed }
      rw [State.setFrames_self ht]
    subst hg
    refine Or.inl ⟨v, ⟨(({ U with heap := s₂.heap, slotsUsed := s₂.slotsUsed } : State).setVm s₂.vm), Ls ++ L, c0 + mc, s0 + ms⟩,
      ⟨X.admits, X.cas, X.clock, X.frames, X.room, X.hears, X.method, X.code, (X.here.setHeapUsed s₂.heap s₂.slotsUsed).setVm hW'.alike, X.tail, State.WarmedH.trans X.warmed hW', X.limits, X.bytes, X.same.trans (hsame.setVm s.vm)⟩,
      ⟨g, mk, s₂, L, rfl, rfl, hqc, rfl, hL, rfl, rfl⟩, ?_⟩
    show Steps p.tables e below _ ((({ U with heap := s₂.heap, slotsUsed := s₂.slotsUsed } : State).setVm s₂.vm).setTop { g with pc := g.pc + len₂, stack := v.toList ++ g.stack })
    rw [← hs₂]
    exact hsteps
  · obtain ⟨e2, q2, q3, q4, q5, q6⟩ := id hsm
    have e3 : s₂ = ({ (U.calling g mk a).setFrames s₂.frames with heap := s₂.heap, slotsUsed := s₂.slotsUsed } : State).setVm s₂.vm := by
      have : s₂ = ({ s₂ with vm := (U.calling g mk a).vm } : State).setVm s₂.vm := rfl
      rw [e2] at this
      exact this
    have hf₂ : s₂.frames = .throwing q :: .java g :: U.frames.tail := hend
    have hW' : U.WarmedH s₂.vm := hW₂
    have hs₂ : s₂ = ((({ U with heap := s₂.heap, slotsUsed := s₂.slotsUsed } : State).setVm s₂.vm).setTop g).pushFrame (.throwing q) := by
      refine e3.trans ?_
      rw [hf₂, State.calling_eq h.top, State.setFrames_setFrames, State.pushFrame, State.frames_setTop _ hr', State.setTop_of_frames _ hr', State.setFrames_setFrames, hr]
      rfl
    have hsame : U.sameButNew ({ U with heap := s₂.heap, slotsUsed := s₂.slotsUsed } : State) L mc ms := by
      refine ⟨?_, q2, q3, q4, q5, q6⟩
      obtain ⟨t, ht, -⟩ := State.frames_cons hr
      show ({ U with heap := s₂.heap, slotsUsed := s₂.slotsUsed } : State) = { U.setFrames U.frames with heap := s₂.heap, slotsUsed := s₂.slotsUsed }
      rw [State.setFrames_self ht]
    subst hg
    refine Or.inr ⟨q, ⟨(({ U with heap := s₂.heap, slotsUsed := s₂.slotsUsed } : State).setVm s₂.vm), Ls ++ L, c0 + mc, s0 + ms⟩,
      ⟨X.admits, X.cas, X.clock, X.frames, X.room, X.hears, X.method, X.code, (X.here.setHeapUsed s₂.heap s₂.slotsUsed).setVm hW'.alike, X.tail, State.WarmedH.trans X.warmed hW', X.limits, X.bytes, X.same.trans (hsame.setVm s.vm)⟩,
      ⟨g, mk, s₂, L, E, ce, rfl, rfl, hx, hce, hcv, hcl, rfl, hL, rfl, rfl⟩, ?_⟩
    show Steps p.tables e below _ (((({ U with heap := s₂.heap, slotsUsed := s₂.slotsUsed } : State).setVm s₂.vm).setTop g).pushFrame (.throwing q))
    rw [← hs₂]
    exact hsteps
end Payer
section Calls
variable {p : Program} {l : Launch} {e : Env} {R : Room} {s : State} {m : MethodId} {args : Array Value} {below : List Frame} {meth : Method} {c : Code} {T : State} {locs : List Loc} {cells slots : Nat}
theorem vx_callV (X : Stand p l e R s m args below meth c T locs cells slots) (hexec : p.tables.exec = Jvm.exec) {own C : String} {index : Nat} {y : MethodName} {bytes : ByteArray} {maxL : Nat} {ret : Option FieldType}
    (hown : s.vm.findClass own = some m.cls) (hlink : (Cond.methodLink own index y).before args s = true) (hinst : (Cond.instanceMethod y).before args s = true) (hsel : (Cond.selects C y y).before args s = true)
    (hcode : (Cond.code y bytes maxL ret).before args s = true) (hy : y.cls ≠ "java/lang/invoke/MethodHandle" ∧ y.cls ≠ "java/lang/invoke/VarHandle")
    {W9 : Nat} {Pre : Pt → Array Value → Prop} {Post : Pt → Array Value → Option Value → Pt → Prop} {PostX : Pt → Array Value → Addr → Pt → Prop} (hK : vx_Back l R p e below s args y 3 W9 Pre Post PostX)
    {b : Addr} {cellB : Cell} (hcell : T.heap[b]? = some cellB) (hobj : cellB.vm.isStatics = false) (hcls : s.vm.findClass C = some cellB.cls)
    {g : JFrame} (hg : g.method = m) (hsize : g.locals.size = c.maxLocals) {argsL rest : List Value} (hlen : ∀ sig, parseMethodDescriptor y.desc = some sig → argsL.length = sig.parameters.length)
    (hstack : g.stack = argsL.reverse ++ .ref b :: rest) (hW : 2 * g.monitorRoom + (rest.map fun v => v.category).sum ≤ W9) (hdg : decode c.code g.pc = .ok (.invokevirtual index, 3))
    (hpre : ∀ vm₁, s.WarmedH vm₁ → Pre ⟨T.setVm vm₁, locs, cells, slots⟩ (Value.ref b :: argsL).toArray) :
    (∃ (v : Option Value) (vm₁ : Vm) (B : Pt), s.WarmedH vm₁ ∧ Stand p l e R s m args below meth c B.U B.locs B.cells B.slots ∧ Post ⟨T.setVm vm₁, locs, cells, slots⟩ (Value.ref b :: argsL).toArray v B ∧
      ∀ target, Steps p.tables e below (B.U.setTop { g with pc := g.pc + 3, stack := v.toList ++ rest }) target → Steps p.tables e below (T.setTop g) target) ∨
    (∃ (q : Addr) (vm₁ : Vm) (B : Pt), s.WarmedH vm₁ ∧ Stand p l e R s m args below meth c B.U B.locs B.cells B.slots ∧ PostX ⟨T.setVm vm₁, locs, cells, slots⟩ (Value.ref b :: argsL).toArray q B ∧
      Steps p.tables e below (T.setTop g) ((B.U.setTop { g with stack := rest }).pushFrame (.throwing q))) := by
  obtain ⟨mk, methM, hnamed, hmethM, hstM, habM⟩ := Cond.instanceMethod_spec hinst
  obtain ⟨methM', cM, hmethM', -, -, -, -, -, -, hsigM⟩ := Cond.code_spec hnamed hcode
  cases hmethM.symm.trans hmethM'
  obtain ⟨c2, r2, m2, q1, q2, q3, q4, kP, hkP, hkPi⟩ := Cond.selects_spec hsel
  cases hcls.symm.trans q1
  cases (State.methodFound?_of_named hnamed hy).symm.trans q2
  cases hnamed.symm.trans q3
  have hselP : selectMethod e.platform s.vm cellB.cls mk = .method mk := by rw [Launch.admits_selectMethod X.admits]; exact q4
  obtain ⟨vm₁, X₁, hstep₁⟩ := X.invokevirtual hexec hown hlink hnamed hmethM hstM hkP hkPi hy (a := b) (cell := cellB) hcell
    (fun z h => by rw [h] at hobj; cases hobj) hselP hmethM habM hkP hkPi (g := g) hg (argsL := argsL) (rest := rest) (hlen _ hsigM) hstack hdg
  rcases hK m meth c ⟨T.setVm vm₁, locs, cells, slots⟩ { g with stack := rest } (.invokevirtual index) mk (Value.ref b :: argsL).toArray X₁ hg hsize hdg hW (X₁.named hnamed) (hpre vm₁ X₁.warmed) with ⟨v, B, X', hpost, hsteps⟩ | ⟨q, B, X', hpost, hsteps⟩
  · exact Or.inl ⟨v, vm₁, B, X₁.warmed, X', hpost, fun target h => hstep₁ _ fun acts => by rw [doInvoke_state]; exact hsteps.trans h⟩
  · exact Or.inr ⟨q, vm₁, B, X₁.warmed, X', hpost, hstep₁ _ fun acts => by rw [doInvoke_state]; exact hsteps⟩
theorem vx_callS (X : Stand p l e R s m args below meth c T locs cells slots) (hexec : p.tables.exec = Jvm.exec) {own : String} {index : Nat} {y : MethodName} {bytes : ByteArray} {maxL : Nat} {ret : Option FieldType}
    (hown : s.vm.findClass own = some m.cls) (hlink : (Cond.methodLink own index y).before args s = true) (hstat : (Cond.static y).before args s = true) (hinit : (Cond.initialized y.cls).before args s = true)
    (hcode : (Cond.code y bytes maxL ret).before args s = true) (hy : y.cls ≠ "java/lang/invoke/MethodHandle" ∧ y.cls ≠ "java/lang/invoke/VarHandle")
    {W9 : Nat} {Pre : Pt → Array Value → Prop} {Post : Pt → Array Value → Option Value → Pt → Prop} {PostX : Pt → Array Value → Addr → Pt → Prop} (hK : vx_Back l R p e below s args y 3 W9 Pre Post PostX)
    {g : JFrame} (hg : g.method = m) (hsize : g.locals.size = c.maxLocals) {argsL rest : List Value} (hlen : ∀ sig, parseMethodDescriptor y.desc = some sig → argsL.length = sig.parameters.length)
    (hstack : g.stack = argsL.reverse ++ rest) (hW : 2 * g.monitorRoom + (rest.map fun v => v.category).sum ≤ W9) (hdg : decode c.code g.pc = .ok (.invokestatic index, 3))
    (hpre : ∀ vm₁, s.WarmedH vm₁ → Pre ⟨T.setVm vm₁, locs, cells, slots⟩ argsL.toArray) :
    (∃ (v : Option Value) (vm₁ : Vm) (B : Pt), s.WarmedH vm₁ ∧ Stand p l e R s m args below meth c B.U B.locs B.cells B.slots ∧ Post ⟨T.setVm vm₁, locs, cells, slots⟩ argsL.toArray v B ∧
      ∀ target, Steps p.tables e below (B.U.setTop { g with pc := g.pc + 3, stack := v.toList ++ rest }) target → Steps p.tables e below (T.setTop g) target) ∨
    (∃ (q : Addr) (vm₁ : Vm) (B : Pt), s.WarmedH vm₁ ∧ Stand p l e R s m args below meth c B.U B.locs B.cells B.slots ∧ PostX ⟨T.setVm vm₁, locs, cells, slots⟩ argsL.toArray q B ∧
      Steps p.tables e below (T.setTop g) ((B.U.setTop { g with stack := rest }).pushFrame (.throwing q))) := by
  obtain ⟨mk, hnamed⟩ := Cond.code_named hcode
  obtain ⟨methM, cM, hmethM, -, -, -, -, -, -, hsigM⟩ := Cond.code_spec hnamed hcode
  have hstatic : methM.isStatic = true := Cond.static_spec hnamed hmethM hstat
  obtain ⟨kP, hkP, -⟩ := className_of_methodNamed hnamed
  have hinitP : kP.init = .initialized := Cond.initialized_spec (findClass_of_methodNamed hnamed) hkP hinit
  obtain ⟨vm₁, X₁, hstep₁⟩ := X.invokestatic hexec hown hlink hnamed hmethM hstatic hkP hinitP hy (g := g) hg (argsL := argsL) (rest := rest) (hlen _ hsigM) hstack hdg
  rcases hK m meth c ⟨T.setVm vm₁, locs, cells, slots⟩ { g with stack := rest } (.invokestatic index) mk argsL.toArray X₁ hg hsize hdg hW (X₁.named hnamed) (hpre vm₁ X₁.warmed) with ⟨v, B, X', hpost, hsteps⟩ | ⟨q, B, X', hpost, hsteps⟩
  · exact Or.inl ⟨v, vm₁, B, X₁.warmed, X', hpost, fun target h => hstep₁ _ fun acts => by rw [doInvoke_state]; exact hsteps.trans h⟩
  · exact Or.inr ⟨q, vm₁, B, X₁.warmed, X', hpost, hstep₁ _ fun acts => by rw [doInvoke_state]; exact hsteps⟩
end Calls
theorem vx_cls {s : State} {T : State} {vm₁ : Vm} {E : String} {k : ClassId} (hW : s.WarmedH vm₁) (h : (T.setVm vm₁).vm.findClass E = some k) : s.vm.findClass E = some k := by
  have h1 : vm₁.findClass E = some k := h
  rw [hW.alike.findClass] at h1
  exact h1
/-- the method's frame g, with q thrown over it -/
def vx_W (p : Program) (l : Launch) (e : Env) (R : Room) (s : State) (m : MethodId) (args : Array Value) (below : List Frame) (meth : Method) (c : Code) (H : Heap) (locs : List Loc) (cells slots : Nat) (Q : State → Prop) (g : JFrame) (q : Addr) : Prop :=
  ∀ T : State, T.heap = H → Stand p l e R s m args below meth c T locs cells slots → ∃ t, Steps p.tables e below ((T.setTop g).pushFrame (.throwing q)) t ∧ Q t
def vx_Run (p : Program) (l : Launch) (e : Env) (R : Room) (s : State) (m : MethodId) (args : Array Value) (below : List Frame) (meth : Method) (c : Code) (H : Heap) (locs : List Loc) (cells slots mc ms : Nat) (g : JFrame) (rest : List Value) (Qa : State → Outcome → State → Prop) (XC : String → State → State → Prop) (free : Addr → Prop) : Prop :=
  ∀ T : State, T.heap = H → Stand p l e R s m args below meth c T locs cells slots →
    (∃ (v : Option Value) (st₀ t T' : State) (L : List Loc), st₀.heap = H ∧ Stand p l e R s m args below meth c T' (locs ++ L) (cells + mc) (slots + ms) ∧ (∀ q ∈ L, free q.base) ∧ T'.heap = t.heap ∧ T'.vm = t.vm ∧ Qa st₀ (.returned v) t ∧
      Goes p e below T g T' { g with pc := g.pc + 3, stack := v.toList ++ rest }) ∨
    (∃ (q : Addr) (st₀ t T' : State) (L : List Loc) (E : String) (ce : Cell), st₀.heap = H ∧ Stand p l e R s m args below meth c T' (locs ++ L) (cells + mc) (slots + ms) ∧ (∀ z ∈ L, free z.base) ∧ T'.heap = t.heap ∧ T'.vm = t.vm ∧ XC E st₀ t ∧ t.heap[q]? = some ce ∧ ce.vm = .none ∧ s.vm.findClass E = some ce.cls ∧
      Steps p.tables e below (T.setTop g) ((T'.setTop { g with stack := rest }).pushFrame (.throwing q)))
def vx_X {S : Type} (px : S → Prop) (B : String → S → State → Prop) (A : Nat → Prop) : String → State → State → Prop := fun E st t => ∃ u : S, px u ∧ B E u t ∧ va_F A st t
section Runs
variable {p : Program} {l : Launch} {e : Env} {R : Room} {s : State} {m : MethodId} {args : Array Value} {below : List Frame} {meth : Method} {c : Code} {H : Heap} {locs : List Loc} {cells slots : Nat}
variable {y : MethodName} {bytes cc : ByteArray} {maxL nL mc ms n index : Nat} {ret : Option FieldType} {ws : List Cond} {rm : Room} {Pc : Array Value → State → Prop} {Qc : Array Value → State → Outcome → State → Prop} {XC : String → State → State → Prop} {free : Addr → Prop} {Ts : List Cond} {own C : String} {b : Addr} {As rest : List Value} {g : JFrame}
theorem vx_callBack (cb : CallB R s args own index y bytes maxL ret ws rm mc ms n) (hM : vx_Met l y ws rm Pc Qc XC mc ms free) (hbl : FrameBlind Pc) : vx_Back l R p e below s args y 3 8 (PreOf R mc ms Pc) (PostOf Qc mc ms free) (vx_Post XC mc ms free) := by
  obtain ⟨hrc, hrs, hfr, hlo, hws, hcw, -, hini, -⟩ := cb
  exact vx_back (bytes := bytes) (maxL := maxL) (ret := ret) hM hbl hrc hrs hfr hlo hws hcw (fun a' U hW => word_at hW (Or.inl (by first | rfl | simp [Cond.onTables, Cond.keeps, Cond.steady])) hini)
theorem vx_runV (S : CallFix p m c cc nL s args Ts own) (hM : vx_Met l y ws rm Pc Qc XC mc ms free) (cw : CallW R s args own C index y bytes maxL ret ws rm mc ms n) (hp : PreV s H C b Pc As)
    (hg : g.method = m) (hn : As.length = n) (hsize : g.locals.size = nL) (hstack : g.stack = As.reverse ++ .ref b :: rest) (hW : 2 * g.monitorRoom + (rest.map fun v => v.category).sum ≤ 8) (hdg : decode cc g.pc = .ok (.invokevirtual index, 3)) (hf : cells + mc ≤ R.cells ∧ slots + ms ≤ R.slots) :
    vx_Run p l e R s m args below meth c H locs cells slots mc ms g rest (Qc (Value.ref b :: As).toArray) XC free := by
  have hK : vx_Back l R p e below s args y 3 8 (PreOf R mc ms Pc) (PostOf Qc mc ms free) (vx_Post XC mc ms free) := vx_callBack cw.1 hM hp.1
  obtain ⟨⟨-, -, -, -, -, -, hcode, -, hy, hlen, hl⟩, hin, hse⟩ := cw
  obtain ⟨hx, hb, hml, ho, -⟩ := S
  obtain ⟨-, ⟨cellB, hcB, hoB, hclB⟩, hPc⟩ := hp
  intro T hT X
  rcases vx_callV X hx (C := C) (bytes := bytes) (maxL := maxL) (ret := ret) ho hl hin hse hcode hy hK (by rw [hT]; exact hcB) hoB hclB hg (hsize.trans hml.symm) (argsL := As) (rest := rest) (fun sig h => hn.trans (hlen sig h)) hstack hW (by rw [hb]; exact hdg)
    (fun vm₁ hW₁ => ⟨hf.1, hf.2, hPc (T.setVm vm₁) hT hW₁⟩) with ⟨v, vm₁, ⟨U', l2, c2, s2⟩, hW₁, X', ⟨g', mk, t, L, e1, e2, hq, h1, hL, h2, h3⟩, st⟩ | ⟨q, vm₁, ⟨U', l2, c2, s2⟩, hW₁, X', ⟨g', mk, t, L, E, ce, e1, e2, hq, hce, hcv, hcl, h1, hL, h2, h3⟩, st⟩
  · dsimp only [Pt.U, Pt.locs, Pt.cells, Pt.slots] at X' e1 e2 h1 h2 h3 st
    subst h1; subst h2; subst h3
    exact Or.inl ⟨v, (T.setVm vm₁).calling g' mk (Value.ref b :: As).toArray, t, U', L, hT, X', hL, e1, e2, hq, st⟩
  · dsimp only [Pt.U, Pt.locs, Pt.cells, Pt.slots] at X' e1 e2 h1 h2 h3 st hcl
    subst h1; subst h2; subst h3
    exact Or.inr ⟨q, (T.setVm vm₁).calling g' mk (Value.ref b :: As).toArray, t, U', L, E, ce, hT, X', hL, e1, e2, hq, hce, hcv, vx_cls hW₁ hcl, st⟩
theorem vx_runS (S : CallFix p m c cc nL s args Ts own) (hM : vx_Met l y ws rm Pc Qc XC mc ms free) (cw : CallB R s args own index y bytes maxL ret ws rm mc ms n ∧ (Cond.static y).before args s = true) (hp : PreS s H Pc As)
    (hg : g.method = m) (hn : As.length = n) (hsize : g.locals.size = nL) (hstack : g.stack = As.reverse ++ rest) (hW : 2 * g.monitorRoom + (rest.map fun v => v.category).sum ≤ 8) (hdg : decode cc g.pc = .ok (.invokestatic index, 3)) (hf : cells + mc ≤ R.cells ∧ slots + ms ≤ R.slots) :
    vx_Run p l e R s m args below meth c H locs cells slots mc ms g rest (Qc As.toArray) XC free := by
  have hK : vx_Back l R p e below s args y 3 8 (PreOf R mc ms Pc) (PostOf Qc mc ms free) (vx_Post XC mc ms free) := vx_callBack cw.1 hM hp.1
  obtain ⟨⟨-, -, -, -, -, -, hcode, hini, hy, hlen, hl⟩, hstt⟩ := cw
  obtain ⟨hx, hb, hml, ho, -⟩ := S
  intro T hT X
  rcases vx_callS X hx (bytes := bytes) (maxL := maxL) (ret := ret) ho hl hstt hini hcode hy hK hg (hsize.trans hml.symm) (argsL := As) (rest := rest) (fun sig h => hn.trans (hlen sig h)) hstack hW (by rw [hb]; exact hdg)
    (fun vm₁ hW₁ => ⟨hf.1, hf.2, hp.2 (T.setVm vm₁) hT hW₁⟩) with ⟨v, vm₁, ⟨U', l2, c2, s2⟩, hW₁, X', ⟨g', mk, t, L, e1, e2, hq, h1, hL, h2, h3⟩, st⟩ | ⟨q, vm₁, ⟨U', l2, c2, s2⟩, hW₁, X', ⟨g', mk, t, L, E, ce, e1, e2, hq, hce, hcv, hcl, h1, hL, h2, h3⟩, st⟩
  · dsimp only [Pt.U, Pt.locs, Pt.cells, Pt.slots] at X' e1 e2 h1 h2 h3 st
    subst h1; subst h2; subst h3
    exact Or.inl ⟨v, (T.setVm vm₁).calling g' mk As.toArray, t, U', L, hT, X', hL, e1, e2, hq, st⟩
  · dsimp only [Pt.U, Pt.locs, Pt.cells, Pt.slots] at X' e1 e2 h1 h2 h3 st hcl
    subst h1; subst h2; subst h3
    exact Or.inr ⟨q, (T.setVm vm₁).calling g' mk As.toArray, t, U', L, E, ce, hT, X', hL, e1, e2, hq, hce, hcv, vx_cls hW₁ hcl, st⟩
end Runs
section Rows
variable {p : Program} {l : Launch} {e : Env} {R : Room} {s : State} {m : MethodId} {args : Array Value} {below : List Frame} {meth : Method} {c : Code} {H : Heap} {locs : List Loc} {cells slots : Nat} {Q : State → Prop}
variable {mc ms : Nat} {free : Addr → Prop} {A0 A1 : Nat → Prop} {H0 : Heap} {a : Array Value} {pc : Nat} {ls : Array Slot} {st0 rest : List Value}
theorem vx_keep {st₀ t T' : State} {L : List Loc} (h0 : st₀.heap = H) (e1 : T'.heap = t.heap) (hS : va_S A0 H0 H locs) (hA : ∀ q, q < H.size → A1 q → A0 q) (hf : ∀ q, free q → A0 q) (hL : ∀ q ∈ L, free q.base) (hF : va_F A1 st₀ t) :
    H.size ≤ T'.heap.size ∧ (∀ q : Nat, q < H.size → ¬ A1 q → T'.heap[q]? = H[q]?) ∧ va_S A0 H0 T'.heap (locs ++ L) := by
  obtain ⟨hz, hk⟩ := hF
  rw [h0] at hz hk
  exact ⟨by rw [e1]; exact hz, fun q h1 h2 => by rw [e1]; exact hk q h1 h2,
    ⟨Nat.le_trans hS.1 (by rw [e1]; exact hz), fun q h1 h2 => by rw [e1, hk q (Nat.lt_of_lt_of_le h1 hS.1) (fun z => h2 (hA q (Nat.lt_of_lt_of_le h1 hS.1) z))]; exact hS.2.1 q h1 h2, fun q hq => by
      rcases List.mem_append.mp hq with h | h
      · exact hS.2.2 q h
      · exact hf _ (hL q h)⟩⟩
theorem vx_calli {S SX : Type} {post : Int32 → S → Prop} {px : SX → Prop} {B : S → State → Prop} {BX : String → SX → State → Prop} {AX : Nat → Prop} (hr : vx_Run p l e R s m args below meth c H locs cells slots mc ms (F0 m pc ls st0) rest (va_Qi post B A1 a) (vx_X px BX AX) free) (hS : va_S A0 H0 H locs) (hA : ∀ q, q < H.size → A1 q → A0 q) (hf : ∀ q, free q → A0 q) (hAX : ∀ q, q < H.size → AX q → A0 q)
    (kx : ∀ (E : String) (ce : Cell) (q9 : Addr) (u : SX) (t : State) (H1 : Heap) (locs1 : List Loc), t.heap = H1 → s.vm.Alike t.vm → px u → BX E u t → H.size ≤ H1.size → (∀ q : Nat, q < H.size → ¬ AX q → H1[q]? = H[q]?) → va_S A0 H0 H1 locs1 → H1[q9]? = some ce → ce.vm = .none → s.vm.findClass E = some ce.cls → vx_W p l e R s m args below meth c H1 locs1 (cells + mc) (slots + ms) Q (F0 m pc ls rest) q9)
    (kk : ∀ (r : Int32) (u : S) (t : State) (H1 : Heap) (locs1 : List Loc), t.heap = H1 → s.vm.Alike t.vm → post r u → B u t → H.size ≤ H1.size → (∀ q : Nat, q < H.size → ¬ A1 q → H1[q]? = H[q]?) → va_S A0 H0 H1 locs1 → W p l e R s m args below meth c H1 locs1 (cells + mc) (slots + ms) Q (F0 m (pc + 3) ls (.int r :: rest))) : W p l e R s m args below meth c H locs cells slots Q (F0 m pc ls st0) := by
  intro T hT X
  rcases hr T hT X with ⟨v, st₀, t, T', L, h0, X', hL, e1, e2, ⟨⟨r, u, hv, hp, hb⟩, hF⟩, st⟩ | ⟨q, st₀, t, T', L, E, ce, h0, X', hL, e1, e2, ⟨u, hp, hb, hF⟩, hce, hcv, hcl, st⟩
  · cases hv
    obtain ⟨k1, k2, k3⟩ := vx_keep h0 e1 hS hA hf hL hF
    obtain ⟨t2, a1, b1⟩ := kk r u t T'.heap (locs ++ L) e1.symm (by rw [← e2]; exact X'.warmed.alike) hp hb k1 k2 k3 T' rfl X'
    exact ⟨t2, st t2 a1, b1⟩
  · obtain ⟨k1, k2, k3⟩ := vx_keep h0 e1 hS hAX hf hL hF
    obtain ⟨t2, a1, b1⟩ := kx E ce q u t T'.heap (locs ++ L) e1.symm (by rw [← e2]; exact X'.warmed.alike) hp hb k1 k2 k3 (by rw [e1]; exact hce) hcv hcl T' rfl X'
    exact ⟨t2, st.trans a1, b1⟩
theorem vx_calll {S SX : Type} {post : Int64 → S → Prop} {px : SX → Prop} {B : S → State → Prop} {BX : String → SX → State → Prop} {AX : Nat → Prop} (hr : vx_Run p l e R s m args below meth c H locs cells slots mc ms (F0 m pc ls st0) rest (va_Ql post B A1 a) (vx_X px BX AX) free) (hS : va_S A0 H0 H locs) (hA : ∀ q, q < H.size → A1 q → A0 q) (hf : ∀ q, free q → A0 q) (hAX : ∀ q, q < H.size → AX q → A0 q)
    (kx : ∀ (E : String) (ce : Cell) (q9 : Addr) (u : SX) (t : State) (H1 : Heap) (locs1 : List Loc), t.heap = H1 → s.vm.Alike t.vm → px u → BX E u t → H.size ≤ H1.size → (∀ q : Nat, q < H.size → ¬ AX q → H1[q]? = H[q]?) → va_S A0 H0 H1 locs1 → H1[q9]? = some ce → ce.vm = .none → s.vm.findClass E = some ce.cls → vx_W p l e R s m args below meth c H1 locs1 (cells + mc) (slots + ms) Q (F0 m pc ls rest) q9)
    (kk : ∀ (r : Int64) (u : S) (t : State) (H1 : Heap) (locs1 : List Loc), t.heap = H1 → s.vm.Alike t.vm → post r u → B u t → H.size ≤ H1.size → (∀ q : Nat, q < H.size → ¬ A1 q → H1[q]? = H[q]?) → va_S A0 H0 H1 locs1 → W p l e R s m args below meth c H1 locs1 (cells + mc) (slots + ms) Q (F0 m (pc + 3) ls (.long r :: rest))) : W p l e R s m args below meth c H locs cells slots Q (F0 m pc ls st0) := by
  intro T hT X
  rcases hr T hT X with ⟨v, st₀, t, T', L, h0, X', hL, e1, e2, ⟨⟨r, u, hv, hp, hb⟩, hF⟩, st⟩ | ⟨q, st₀, t, T', L, E, ce, h0, X', hL, e1, e2, ⟨u, hp, hb, hF⟩, hce, hcv, hcl, st⟩
  · cases hv
    obtain ⟨k1, k2, k3⟩ := vx_keep h0 e1 hS hA hf hL hF
    obtain ⟨t2, a1, b1⟩ := kk r u t T'.heap (locs ++ L) e1.symm (by rw [← e2]; exact X'.warmed.alike) hp hb k1 k2 k3 T' rfl X'
    exact ⟨t2, st t2 a1, b1⟩
  · obtain ⟨k1, k2, k3⟩ := vx_keep h0 e1 hS hAX hf hL hF
    obtain ⟨t2, a1, b1⟩ := kx E ce q u t T'.heap (locs ++ L) e1.symm (by rw [← e2]; exact X'.warmed.alike) hp hb k1 k2 k3 (by rw [e1]; exact hce) hcv hcl T' rfl X'
    exact ⟨t2, st.trans a1, b1⟩
theorem vx_callf {S SX : Type} {post : UInt32 → S → Prop} {px : SX → Prop} {B : S → State → Prop} {BX : String → SX → State → Prop} {AX : Nat → Prop} (hr : vx_Run p l e R s m args below meth c H locs cells slots mc ms (F0 m pc ls st0) rest (va_Qf post B A1 a) (vx_X px BX AX) free) (hS : va_S A0 H0 H locs) (hA : ∀ q, q < H.size → A1 q → A0 q) (hf : ∀ q, free q → A0 q) (hAX : ∀ q, q < H.size → AX q → A0 q)
    (kx : ∀ (E : String) (ce : Cell) (q9 : Addr) (u : SX) (t : State) (H1 : Heap) (locs1 : List Loc), t.heap = H1 → s.vm.Alike t.vm → px u → BX E u t → H.size ≤ H1.size → (∀ q : Nat, q < H.size → ¬ AX q → H1[q]? = H[q]?) → va_S A0 H0 H1 locs1 → H1[q9]? = some ce → ce.vm = .none → s.vm.findClass E = some ce.cls → vx_W p l e R s m args below meth c H1 locs1 (cells + mc) (slots + ms) Q (F0 m pc ls rest) q9)
    (kk : ∀ (r : UInt32) (u : S) (t : State) (H1 : Heap) (locs1 : List Loc), t.heap = H1 → s.vm.Alike t.vm → post r u → B u t → H.size ≤ H1.size → (∀ q : Nat, q < H.size → ¬ A1 q → H1[q]? = H[q]?) → va_S A0 H0 H1 locs1 → W p l e R s m args below meth c H1 locs1 (cells + mc) (slots + ms) Q (F0 m (pc + 3) ls (.float r :: rest))) : W p l e R s m args below meth c H locs cells slots Q (F0 m pc ls st0) := by
  intro T hT X
  rcases hr T hT X with ⟨v, st₀, t, T', L, h0, X', hL, e1, e2, ⟨⟨r, u, hv, hp, hb⟩, hF⟩, st⟩ | ⟨q, st₀, t, T', L, E, ce, h0, X', hL, e1, e2, ⟨u, hp, hb, hF⟩, hce, hcv, hcl, st⟩
  · cases hv
    obtain ⟨k1, k2, k3⟩ := vx_keep h0 e1 hS hA hf hL hF
    obtain ⟨t2, a1, b1⟩ := kk r u t T'.heap (locs ++ L) e1.symm (by rw [← e2]; exact X'.warmed.alike) hp hb k1 k2 k3 T' rfl X'
    exact ⟨t2, st t2 a1, b1⟩
  · obtain ⟨k1, k2, k3⟩ := vx_keep h0 e1 hS hAX hf hL hF
    obtain ⟨t2, a1, b1⟩ := kx E ce q u t T'.heap (locs ++ L) e1.symm (by rw [← e2]; exact X'.warmed.alike) hp hb k1 k2 k3 (by rw [e1]; exact hce) hcv hcl T' rfl X'
    exact ⟨t2, st.trans a1, b1⟩
theorem vx_calld {S SX : Type} {post : UInt64 → S → Prop} {px : SX → Prop} {B : S → State → Prop} {BX : String → SX → State → Prop} {AX : Nat → Prop} (hr : vx_Run p l e R s m args below meth c H locs cells slots mc ms (F0 m pc ls st0) rest (va_Qd post B A1 a) (vx_X px BX AX) free) (hS : va_S A0 H0 H locs) (hA : ∀ q, q < H.size → A1 q → A0 q) (hf : ∀ q, free q → A0 q) (hAX : ∀ q, q < H.size → AX q → A0 q)
    (kx : ∀ (E : String) (ce : Cell) (q9 : Addr) (u : SX) (t : State) (H1 : Heap) (locs1 : List Loc), t.heap = H1 → s.vm.Alike t.vm → px u → BX E u t → H.size ≤ H1.size → (∀ q : Nat, q < H.size → ¬ AX q → H1[q]? = H[q]?) → va_S A0 H0 H1 locs1 → H1[q9]? = some ce → ce.vm = .none → s.vm.findClass E = some ce.cls → vx_W p l e R s m args below meth c H1 locs1 (cells + mc) (slots + ms) Q (F0 m pc ls rest) q9)
    (kk : ∀ (r : UInt64) (u : S) (t : State) (H1 : Heap) (locs1 : List Loc), t.heap = H1 → s.vm.Alike t.vm → post r u → B u t → H.size ≤ H1.size → (∀ q : Nat, q < H.size → ¬ A1 q → H1[q]? = H[q]?) → va_S A0 H0 H1 locs1 → W p l e R s m args below meth c H1 locs1 (cells + mc) (slots + ms) Q (F0 m (pc + 3) ls (.double r :: rest))) : W p l e R s m args below meth c H locs cells slots Q (F0 m pc ls st0) := by
  intro T hT X
  rcases hr T hT X with ⟨v, st₀, t, T', L, h0, X', hL, e1, e2, ⟨⟨r, u, hv, hp, hb⟩, hF⟩, st⟩ | ⟨q, st₀, t, T', L, E, ce, h0, X', hL, e1, e2, ⟨u, hp, hb, hF⟩, hce, hcv, hcl, st⟩
  · cases hv
    obtain ⟨k1, k2, k3⟩ := vx_keep h0 e1 hS hA hf hL hF
    obtain ⟨t2, a1, b1⟩ := kk r u t T'.heap (locs ++ L) e1.symm (by rw [← e2]; exact X'.warmed.alike) hp hb k1 k2 k3 T' rfl X'
    exact ⟨t2, st t2 a1, b1⟩
  · obtain ⟨k1, k2, k3⟩ := vx_keep h0 e1 hS hAX hf hL hF
    obtain ⟨t2, a1, b1⟩ := kx E ce q u t T'.heap (locs ++ L) e1.symm (by rw [← e2]; exact X'.warmed.alike) hp hb k1 k2 k3 (by rw [e1]; exact hce) hcv hcl T' rfl X'
    exact ⟨t2, st.trans a1, b1⟩
theorem vx_callv {S SX : Type} {post : S → Prop} {px : SX → Prop} {B : S → State → Prop} {BX : String → SX → State → Prop} {AX : Nat → Prop} (hr : vx_Run p l e R s m args below meth c H locs cells slots mc ms (F0 m pc ls st0) rest (va_Qv post B A1 a) (vx_X px BX AX) free) (hS : va_S A0 H0 H locs) (hA : ∀ q, q < H.size → A1 q → A0 q) (hf : ∀ q, free q → A0 q) (hAX : ∀ q, q < H.size → AX q → A0 q)
    (kx : ∀ (E : String) (ce : Cell) (q9 : Addr) (u : SX) (t : State) (H1 : Heap) (locs1 : List Loc), t.heap = H1 → s.vm.Alike t.vm → px u → BX E u t → H.size ≤ H1.size → (∀ q : Nat, q < H.size → ¬ AX q → H1[q]? = H[q]?) → va_S A0 H0 H1 locs1 → H1[q9]? = some ce → ce.vm = .none → s.vm.findClass E = some ce.cls → vx_W p l e R s m args below meth c H1 locs1 (cells + mc) (slots + ms) Q (F0 m pc ls rest) q9)
    (kk : ∀ (u : S) (t : State) (H1 : Heap) (locs1 : List Loc), t.heap = H1 → s.vm.Alike t.vm → post u → B u t → H.size ≤ H1.size → (∀ q : Nat, q < H.size → ¬ A1 q → H1[q]? = H[q]?) → va_S A0 H0 H1 locs1 → W p l e R s m args below meth c H1 locs1 (cells + mc) (slots + ms) Q (F0 m (pc + 3) ls (rest))) : W p l e R s m args below meth c H locs cells slots Q (F0 m pc ls st0) := by
  intro T hT X
  rcases hr T hT X with ⟨v, st₀, t, T', L, h0, X', hL, e1, e2, ⟨⟨u, hv, hp, hb⟩, hF⟩, st⟩ | ⟨q, st₀, t, T', L, E, ce, h0, X', hL, e1, e2, ⟨u, hp, hb, hF⟩, hce, hcv, hcl, st⟩
  · cases hv
    obtain ⟨k1, k2, k3⟩ := vx_keep h0 e1 hS hA hf hL hF
    obtain ⟨t2, a1, b1⟩ := kk u t T'.heap (locs ++ L) e1.symm (by rw [← e2]; exact X'.warmed.alike) hp hb k1 k2 k3 T' rfl X'
    exact ⟨t2, st t2 a1, b1⟩
  · obtain ⟨k1, k2, k3⟩ := vx_keep h0 e1 hS hAX hf hL hF
    obtain ⟨t2, a1, b1⟩ := kx E ce q u t T'.heap (locs ++ L) e1.symm (by rw [← e2]; exact X'.warmed.alike) hp hb k1 k2 k3 (by rw [e1]; exact hce) hcv hcl T' rfl X'
    exact ⟨t2, st.trans a1, b1⟩
/-- caught by the row x of this method's table; the rows ahead don't take it -/
theorem vx_catch {own name : String} {E : String} {ce : Cell} {q : Addr} (hown : s.vm.findClass own = some m.cls) (pre : List ExceptionTableEntry) (x : ExceptionTableEntry) (suf : List ExceptionTableEntry) (hsplit : c.exceptionTable.toList = pre ++ x :: suf)
    (hpass : ∀ z ∈ pre, covers z pc = false ∨ (z.catchType ≠ 0 ∧ ∃ nm : String, (Cond.classLink own z.catchType nm).before args s = true ∧ va_Nc E nm s)) (hx : covers x pc = true) (h0 : x.catchType ≠ 0)
    (hlink : (Cond.classLink own x.catchType name).before args s = true) (hcast : (Cond.castable E name).before args s = true) (hcell : H[q]? = some ce) (hv : ce.vm = .none) (hcl : s.vm.findClass E = some ce.cls)
    (kk : W p l e R s m args below meth c H locs cells slots Q (F0 m x.handlerPc ls [.ref q])) : vx_W p l e R s m args below meth c H locs cells slots Q (F0 m pc ls rest) q := by
  intro T hT X
  have hpl : e.platform.magicAccessors = ({} : Platform).magicAccessors := by rw [X.admits.platform]
  obtain ⟨c3, c4, hc3, hc4, hasg⟩ := Cond.castable_spec hcast
  cases Option.some.inj (hc3.symm.trans hcl)
  obtain ⟨c5, hc5, hcl5⟩ := Cond.classLink_spec hown hlink e.platform hpl
  cases Option.some.inj (hc4.symm.trans hc5)
  obtain ⟨vm', X', st⟩ := X.thenCaughtThrough q (g := F0 m pc ls rest) rfl (Steps.refl _) (by rw [hT]; exact hcell) (by rw [hv]; rfl) (by obtain ⟨k9, h9, -⟩ := Vm.findClass_spec hcl; exact ⟨k9, h9⟩) pre x suf hsplit
    (fun z hz => by
      rcases hpass z hz with h | ⟨hz0, nm, hl1, hn1⟩
      · exact Or.inl h
      · obtain ⟨c6, hc6, hcl6⟩ := Cond.classLink_spec hown hl1 e.platform hpl
        obtain ⟨a8, b8, h1, h2, h3⟩ := hn1
        cases Option.some.inj (h1.symm.trans hcl)
        cases Option.some.inj (h2.symm.trans hc6)
        exact Or.inr ⟨hz0, _, hcl6, h3⟩) hx (Or.inr ⟨h0, c4, hcl5, hasg⟩)
  obtain ⟨t, a1, b1⟩ := kk (T.setVm vm') hT X'
  exact ⟨t, st.trans a1, b1⟩
end Rows
section Ends
variable {p : Program} {l : Launch} {e : Env} {R : Room} {s : State} {m : MethodId} {args : Array Value} {below : List Frame} {meth : Method} {c : Code} {H : Heap} {locs : List Loc} {cells slots : Nat} {Q : State → Prop}
variable {mc ms : Nat} {free : Addr → Prop} {A0 A1 : Nat → Prop} {H0 : Heap} {a : Array Value} {ls : Array Slot} {st0 rest : List Value}
variable {Qc : Array Value → State → Outcome → State → Prop} {XC : String → State → State → Prop}
/-- what a body that may throw owes at its end -/
def vx_MQ (below : List Frame) (Qc : Array Value → State → Outcome → State → Prop) (XC : String → State → State → Prop) (a : Array Value) (s : State) (mc ms : Nat) (free : Addr → Prop) : State → Prop := fun t =>
  ∃ o, t.status = .running ∧ Ended t below o ∧ vx_Q Qc XC mc ms free a s o t
theorem vx_ret {g : JFrame} {mc ms : Nat} (k : W p l e R s m args below meth c H locs cells slots (MQ below Qc args s mc ms free) g) : W p l e R s m args below meth c H locs cells slots (vx_MQ below Qc XC args s mc ms free) g := by
  intro T hT X
  obtain ⟨t, a1, o, b1, b2, b3, b4⟩ := k T hT X
  exact ⟨t, a1, o, b1, b2, Or.inl ⟨b3, b4⟩⟩
/-- not caught here: it goes on to the caller -/
theorem vx_widen {g : JFrame} {q : Addr} {k n : Nat} (h1 : cells ≤ k) (h2 : slots ≤ n) (kk : vx_W p l e R s m args below meth c H locs k n Q g q) : vx_W p l e R s m args below meth c H locs cells slots Q g q := fun T hT X => kk T hT (stand_widen X h1 h2)
theorem vx_out {pc : Nat} {E : String} {ce : Cell} {q : Addr} {mc ms : Nat} (hout : ∀ x ∈ c.exceptionTable.toList, covers x pc = false) (hlocks : meth.locks = false) (hcell : H[q]? = some ce) (hv : ce.vm = .none) (hcl : s.vm.findClass E = some ce.cls)
    (hx : ∀ t : State, t.heap = H → s.vm.Alike t.vm → XC E s t) (hf : ∀ z ∈ locs, free z.base) (hc : cells ≤ mc) (hs : slots ≤ ms) :
    vx_W p l e R s m args below meth c H locs cells slots (vx_MQ below Qc XC args s mc ms free) (F0 m pc ls rest) q := by
  intro T hT X
  obtain ⟨st1, hrun, hend, hW, hsm⟩ := X.leaveThrown q (g := F0 m pc ls rest) rfl rfl rfl hout hlocks
  have hcell9 : (T.setFrames (.throwing q :: below)).heap[q]? = some ce := by
    show T.heap[q]? = some ce
    rw [hT]; exact hcell
  exact ⟨_, st1, .threw q, hrun, hend, Or.inr ⟨q, rfl, E, ce, locs, hx _ hT hW.alike, hcell9, hv, hcl, hW, hsm.mono hc hs, hf⟩⟩
theorem vx_frame {U : State} {k n : Nat} (h : s.sameButNew ({ U with vm := s.vm } : State) locs k n) : s.heap.size ≤ U.heap.size ∧ ∀ q : Nat, q < s.heap.size → (∀ z ∈ locs, z.base ≠ q) → U.heap[q]? = s.heap[q]? := by
  obtain ⟨-, h2, -, -, -, h6⟩ := h
  refine ⟨h2, fun q hq hz => ?_⟩
  obtain ⟨c9, e1, e2, e3, e4⟩ := h6 q _ (Array.getElem?_eq_getElem hq)
  have hs : c9.slots = (s.heap[q]).slots := Array.ext_getElem? fun i => e4 i fun hm => hz _ hm rfl
  have h9 : c9 = s.heap[q] := by
    rw [hs] at e2
    exact e2
  have e5 : U.heap[q]? = some c9 := e1
  rw [e5, h9, Array.getElem?_eq_getElem hq]
/-- the words of a throw but the four that speak of the heap -/
def vx_no (w : Cond) : Bool := decide (w ≠ .isRef (.static Bundle.tN "UNASSIGNED_STACK" Bundle.steD)) && decide (w ≠ .isRef (.static Bundle.tN "SUPPRESSED_SENTINEL" Bundle.listD)) && decide (w ≠ .laysStatic Bundle.tN "UNASSIGNED_STACK" Bundle.steD) && decide (w ≠ .laysStatic Bundle.tN "SUPPRESSED_SENTINEL" Bundle.listD)
def vx_at0 (own : String) (ic : Nat) (X : String) (names : List String) : List Cond := (Bundle.ownAtoms0 own ic X names).filter vx_no
def vx_atS (own : String) (ic : Nat) (X : String) (names : List String) : List Cond := (Bundle.ownAtoms own ic X names).filter vx_no
/-- a word that the tables alone decide, or a good one -/
def vx_ot (w : Cond) : Bool := w.onTables || goodWord w
theorem vx_ot_at {args a' : Array Value} {s U : State} {w : Cond} (hW : s.WarmedH U.vm) (hvm : s.vm = U.vm) (hg : vx_ot w = true) (h : w.before args s = true) : w.before a' U = true := by
  simp only [vx_ot, Bool.or_eq_true] at hg
  rcases hg with hg | hg
  · exact va_tabs hg hvm h
  · exact word_at hW (good_of_word hg) h
/-- a list's words: the good ones out of the method's own list, the others by premises of their own -/
theorem vx_hat {args : Array Value} {s : State} {L B : List Cond} (h1 : ∀ w ∈ L.filter goodWord, w.before args s = true) (h2 : ∀ w ∈ L.filter (fun w => !goodWord w), w ∈ B) (h3 : ∀ w ∈ B, w.before args s = true) : ∀ w ∈ L, w.before args s = true := by
  intro w hw
  by_cases g : goodWord w = true
  · exact h1 w (List.mem_filter.mpr ⟨hw, g⟩)
  · refine h3 w (h2 w (List.mem_filter.mpr ⟨hw, ?_⟩))
    show (!goodWord w) = true
    cases hgw : goodWord w
    · rfl
    · exact absurd hgw g
theorem vx_c {args : Array Value} {s : State} {w : Cond} {B : List Cond} (h : w.before args s = true) (t : ∀ w ∈ B, w.before args s = true) : ∀ w' ∈ w :: B, w'.before args s = true := fun w' h' => (List.mem_cons.mp h').elim (fun e => by rw [e]; exact h) (t w')
theorem vx_n {args : Array Value} {s : State} : ∀ w ∈ ([] : List Cond), w.before args s = true := fun _ h => nomatch h
theorem vx_own {args : Array Value} {s : State} {L : List Cond} (h1 : ∀ w ∈ L.filter vx_no, w.before args s = true)
    (hU : (Cond.isRef (.static Bundle.tN "UNASSIGNED_STACK" Bundle.steD)).before args s = true) (hN : (Cond.isRef (.static Bundle.tN "SUPPRESSED_SENTINEL" Bundle.listD)).before args s = true)
    (lU : (Cond.laysStatic Bundle.tN "UNASSIGNED_STACK" Bundle.steD).before args s = true) (lN : (Cond.laysStatic Bundle.tN "SUPPRESSED_SENTINEL" Bundle.listD).before args s = true) : ∀ w ∈ L, w.before args s = true := by
  intro w hw
  by_cases e1 : w = .isRef (.static Bundle.tN "UNASSIGNED_STACK" Bundle.steD)
  · rw [e1]; exact hU
  · by_cases e2 : w = .isRef (.static Bundle.tN "SUPPRESSED_SENTINEL" Bundle.listD)
    · rw [e2]; exact hN
    · by_cases e3 : w = .laysStatic Bundle.tN "UNASSIGNED_STACK" Bundle.steD
      · rw [e3]; exact lU
      · by_cases e4 : w = .laysStatic Bundle.tN "SUPPRESSED_SENTINEL" Bundle.listD
        · rw [e4]; exact lN
        · exact h1 w (List.mem_filter.mpr ⟨hw, by unfold vx_no; rw [decide_eq_true e1, decide_eq_true e2, decide_eq_true e3, decide_eq_true e4]; rfl⟩)
/-- where a static field lies, its class's statics cell in H -/
def vx_L (C n d : String) (A : Nat → Prop) (U : State) (H : Heap) : Prop := ∃ (c : ClassId) (k : Class) (i : Nat) (f : Field) (a : Nat) (cell : Cell), U.vm.findClass C = some c ∧ U.fieldFound? C n d = some (c, k, i, f) ∧ f.isStatic = true ∧ k.statics = some a ∧ H[a]? = some cell ∧ cell.vm.isStatics = true ∧ cell.cls = c ∧ f.slot < cell.slots.size ∧ k.staticTypes[f.slot]? = some f.type ∧ ¬ A a
theorem vx_L.moved {C n d : String} {A : Nat → Prop} {u U : State} {H : Heap} (hvm : u.vm.Alike U.vm) (h : vx_L C n d A u H) : vx_L C n d A U H := by
  obtain ⟨c, k, i, f, a, cell, h1, h2, h3, h4, h5, h6, h7, h8, h9, h10⟩ := h
  obtain ⟨k', hi', he⟩ := State.fieldFound?_setVm hvm h2
  exact ⟨c, k', i, f, a, cell, by rw [hvm.findClass]; exact h1, hi', h3, by rw [he]; exact h4, h5, h6, h7, h8, by rw [he]; exact h9, h10⟩
theorem vx_L.kept {C n d : String} {A : Nat → Prop} {U : State} {H H1 : Heap} (h : vx_L C n d A U H) (hq : ∀ a : Nat, a < H.size → ¬ A a → H1[a]? = H[a]?) : vx_L C n d A U H1 := by
  obtain ⟨c, k, i, f, a, cell, h1, h2, h3, h4, h5, h6, h7, h8, h9, h10⟩ := h
  exact ⟨c, k, i, f, a, cell, h1, h2, h3, h4, by rw [hq a (Array.getElem?_eq_some_iff.mp h5).1 h10]; exact h5, h6, h7, h8, h9, h10⟩
theorem vx_L.narrow {C n d : String} {A B : Nat → Prop} {U : State} {H : Heap} (h : vx_L C n d A U H) (hAB : ∀ q, B q → A q) : vx_L C n d B U H := by
  obtain ⟨c, k, i, f, a, cell, h1, h2, h3, h4, h5, h6, h7, h8, h9, h10⟩ := h
  exact ⟨c, k, i, f, a, cell, h1, h2, h3, h4, h5, h6, h7, h8, h9, fun z => h10 (hAB _ z)⟩
theorem vx_L.word {C n d : String} {A : Nat → Prop} {s : State} {args : Array Value} (h : vx_L C n d A s s.heap) : (Cond.laysStatic C n d).before args s = true := by
  obtain ⟨c, k, i, f, a, cell, h1, h2, h3, h4, h5, h6, h7, h8, h9, -⟩ := h
  show (Cond.laysStatic C n d).holds args s none s [] = true
  exact Cond.laysStatic_of h1 h2 h3 h4 h5 h6 h7 h8 h9
/-- .. and what it holds: null or some reference -/
def vx_Zq (C n d : String) (A : Nat → Prop) (U : State) (H : Heap) : Prop := va_Zq C n d A U H ∧ vx_L C n d A U H
theorem vx_Zq.moved {C n d : String} {A : Nat → Prop} {u U : State} {H : Heap} (hvm : u.vm.Alike U.vm) (h : vx_Zq C n d A u H) : vx_Zq C n d A U H := ⟨va_Zq.moved hvm h.1, vx_L.moved hvm h.2⟩
theorem vx_Zq.kept {C n d : String} {A : Nat → Prop} {U : State} {H H1 : Heap} (h : vx_Zq C n d A U H) (hq : ∀ a : Nat, a < H.size → ¬ A a → H1[a]? = H[a]?) : vx_Zq C n d A U H1 := ⟨va_Zq.kept h.1 hq, vx_L.kept h.2 hq⟩
theorem vx_Zq.narrow {C n d : String} {A B : Nat → Prop} {U : State} {H : Heap} (h : vx_Zq C n d A U H) (hAB : ∀ q, B q → A q) : vx_Zq C n d B U H := ⟨va_Zq.narrow h.1 hAB, vx_L.narrow h.2 hAB⟩
theorem vx_Zqof {args : Array Value} {s : State} {C n d : String} {A : Nat → Prop} (hl : (Cond.laysStatic C n d).before args s = true) (hini : (Cond.initialized C).before args s = true) (h : (Cond.isRef (.static C n d)).before args s = true) (hA : ∀ a : Nat, a < s.heap.size → ¬ A a) : vx_Zq C n d A s s.heap := by
  refine ⟨va_Zqof hl hini h hA, ?_⟩
  obtain ⟨c, k, i, f, a, cell, h1, h2, h3, h4, h5, h6, h7, h8, h9⟩ := Cond.laysStatic_spec hl
  exact ⟨c, k, i, f, a, cell, h1, h2, h3, h4, h5, h6, h7, h8, h9, hA a (Array.getElem?_eq_some_iff.mp h5).1⟩
theorem vx_isRef {C n d : String} {v : Value} {A : Nat → Prop} {s : State} {args : Array Value} (h : va_Z C n d v A s s.heap) (hv : v.isRef = true) : (Cond.isRef (.static C n d)).before args s = true := by
  obtain ⟨cf, kf, fi, f, a, cell, h1, h2, h3, h4, h5, h6, h7, -⟩ := h
  have he : (Term.static C n d).eval args s none [] s = some v := by
    simp [Term.eval, State.fieldNamed?, h1, h2, h4, h5, h6, h7]
  simp only [Cond.before, Cond.holds, Cond.value, he]
  cases v <;> simp_all [Value.isRef]
theorem vx_isRefq {C n d : String} {A : Nat → Prop} {s : State} {args : Array Value} (h : va_Zq C n d A s s.heap) : (Cond.isRef (.static C n d)).before args s = true := by
  rcases h with h | ⟨t, h⟩
  · exact vx_isRef h rfl
  · exact vx_isRef h rfl
/-- the same frame, seen from here: as if the method were called anew in this heap -/
theorem vx_rebase {T : State} (X : Stand p l e R s m args below meth c T locs cells slots) {R' : Room} (hf : R'.frames ≤ R.frames) (hl : R'.locals ≤ R.locals) (hc : cells + R'.cells ≤ R.cells) (hs : slots + R'.slots ≤ R.slots) :
    Stand p l e R' ((T.setVm s.vm).setFrames (.invoking m args :: below)) m args below meth c T [] 0 0 := by
  have htop : (T.setVm s.vm).topJava?.isSome := X.here.top
  have hF : ((T.setVm s.vm).setFrames (.invoking m args :: below)).frames = .invoking m args :: below := State.frames_setFrames _ (State.cur_lt_of_top htop)
  obtain ⟨g₀, hg0⟩ := Option.isSome_iff_exists.mp htop
  obtain ⟨r, hr⟩ := State.topJava?_eq_some.mp hg0
  have hl9 : e.platform.stackLimits (T.setVm s.vm).me = e.platform.stackLimits s.me := X.limits
  have hb9 : (T.setVm s.vm).me.stackBytes = s.me.stackBytes := X.bytes
  refine ⟨X.admits, X.cas, X.clock, hF, ?_, X.hears, X.method, X.code, X.here, X.tail, X.warmed, ?_, ?_, ?_⟩
  · have h := X.room
    have hU : ((T.setVm s.vm).setFrames (.invoking m args :: below)).localsInUse = s.localsInUse := by
      rw [State.localsInUse_invoking hF (meth := meth) (c := c) X.method X.code, State.localsInUse_invoking X.frames X.method X.code]
    simp only [State.hasRoom, Bool.and_eq_true, decide_eq_true_eq] at h ⊢
    obtain ⟨⟨⟨⟨h1, h2, h3, h4, h5, h6⟩, h7⟩, h8⟩, h9⟩ := h
    rw [X.frames, List.length_cons] at h2 h3
    have q1 := X.heapSize
    have q2 := X.used
    simp only [hF, hU, List.length_cons, State.stackLimits_setFrames, State.stackBytes_setFrames, hl9, hb9]
    refine ⟨⟨⟨⟨by omega, by omega, by omega, by omega, by omega, h6⟩, ?_⟩, ?_⟩, X.book⟩
    · show T.heap.size + R'.cells ≤ e.platform.maxCells
      omega
    · show T.slotsUsed + R'.slots ≤ e.platform.maxSlots
      omega
  · rw [State.stackLimits_setFrames]; rfl
  · rw [State.stackBytes_setFrames]; rfl
  · refine ⟨?_, Nat.le_refl _, Nat.le_refl _, ?_, ?_, fun a c9 h9 => ⟨c9, h9, rfl, rfl, fun _ _ => rfl⟩⟩
    · obtain ⟨t, ht, -⟩ := State.frames_cons hr
      show T.setVm s.vm = { ((T.setVm s.vm).setFrames (.invoking m args :: below)).setFrames (T.setVm s.vm).frames with heap := T.heap, slotsUsed := T.slotsUsed }
      rw [State.setFrames_setFrames, State.setFrames_self ht]
      rfl
    · show T.slotsUsed = T.slotsUsed + ((T.heap.toList.drop T.heap.size).map (·.slots.size)).sum
      rw [List.drop_eq_nil_of_le (Nat.le_of_eq Array.length_toList)]
      rfl
    · show ((T.heap.toList.drop T.heap.size).map (·.slots.size)).sum ≤ 0
      rw [List.drop_eq_nil_of_le (Nat.le_of_eq Array.length_toList)]
      exact Nat.le_refl _
/-- 'throw new E()': new; dup; invokespecial; athrow -/
theorem vx_throw0 {cc : ByteArray} {pc : Nat} (hexec : p.tables.exec = Jvm.exec) (hb : c.code = cc) (hl : l.stackTraces = false) {own cls : String} {names : List String} {ik ic mc ms : Nat} {A : Nat → Prop}
    (hown : s.vm.findClass own = some m.cls) (hcls : Bundle.fit cls = true) (hnames : ∀ n ∈ names, Bundle.fit n = true)
    (hk : (Cond.classLink own ik cls).before args s = true) (hini : (Cond.initialized cls).before args s = true) (hat : ∀ w ∈ vx_at0 own ic cls names, w.before args s = true)
    (hgood : ∀ w ∈ Cond.classLink own ik cls :: Cond.initialized cls :: vx_at0 own ic cls names, vx_ot w = true)
    (hU : vx_Zq Bundle.tN "UNASSIGNED_STACK" Bundle.steD A s s.heap) (hN : vx_Zq Bundle.tN "SUPPRESSED_SENTINEL" Bundle.listD A s s.heap) (hS : va_S A s.heap H locs) (hsize : ls.size = c.maxLocals)
    (d0 : decode cc pc = .ok (.new ik, 3)) (d3 : decode cc (pc + 3) = .ok (.dup, 1)) (d4 : decode cc (pc + 4) = .ok (.invokespecial ic, 3)) (d7 : decode cc (pc + 7) = .ok (.athrow, 1))
    (hout : ∀ x ∈ c.exceptionTable.toList, covers x (pc + 7) = false)
    (hRframes : names.length + 3 < R.frames) (hRlocals : (rest.map fun v => v.category).sum + (13 * (names.length + 1) + 42) ≤ R.locals) (hRcells : cells + 1 ≤ R.cells) (hRslots : slots + 6 ≤ R.slots) (hlocks : meth.locks = false)
    (hx : ∀ t : State, s.vm.Alike t.vm → H.size ≤ t.heap.size → (∀ q : Nat, q < H.size → t.heap[q]? = H[q]?) → XC cls s t)
    (hf : ∀ z ∈ locs, free z.base) (hc : cells + 1 ≤ mc) (hs : slots + 6 ≤ ms) :
    W p l e R s m args below meth c H locs cells slots (vx_MQ below Qc XC args s mc ms free) (F0 m pc ls rest) := by
  intro T hT X
  have htr : e.platform.stackTraces = false := (show e.platform.stackTraces = l.stackTraces by rw [X.admits.platform]).trans hl
  have Y := vx_rebase X (R' := { frames := R.frames, locals := R.locals, cells := 1, slots := 6 }) (Nat.le_refl _) (Nat.le_refl _) hRcells hRslots
  obtain ⟨s', hA⟩ : ∃ z, z = (T.setVm s.vm).setFrames (.invoking m args :: below) := ⟨_, rfl⟩
  rw [← hA] at Y
  have hvm : s'.vm = s.vm := by rw [hA]; rfl
  have hhp : s'.heap = H := by rw [hA]; exact hT
  have hW0 : s.WarmedH s'.vm := by rw [hvm]; exact State.WarmedH.refl s
  have hat' : ∀ w ∈ vx_at0 own ic cls names, w.before args s' = true := fun w hw => vx_ot_at hW0 hvm.symm (hgood w (List.mem_cons_of_mem _ (List.mem_cons_of_mem _ hw))) (hat w hw)
  have hk' : (Cond.classLink own ik cls).before args s' = true := vx_ot_at hW0 hvm.symm (hgood _ List.mem_cons_self) hk
  have hini' : (Cond.initialized cls).before args s' = true := vx_ot_at hW0 hvm.symm (hgood _ (List.mem_cons_of_mem _ List.mem_cons_self)) hini
  have hU' : vx_Zq Bundle.tN "UNASSIGNED_STACK" Bundle.steD A s' s'.heap := by rw [hhp]; exact vx_Zq.moved hW0.alike (hU.kept hS.2.1)
  have hN' : vx_Zq Bundle.tN "SUPPRESSED_SENTINEL" Bundle.listD A s' s'.heap := by rw [hhp]; exact vx_Zq.moved hW0.alike (hN.kept hS.2.1)
  have h : ∀ w ∈ Bundle.ownAtoms0 own ic cls names, w.before args s' = true := vx_own hat' (vx_isRefq hU'.1) (vx_isRefq hN'.1) hU'.2.word hN'.2.word
  have hown' : s'.vm.findClass own = some m.cls := by rw [hvm]; exact hown
  have hins : (Cond.instantiable cls 6).before args s' = true := h _ (by simp [Bundle.ownAtoms0])
  obtain ⟨vm₁, cX, kX, hfX, hkX, -, -, X₁, st1⟩ := Y.newCold hexec (own := own) (C := cls) (index := ik) (n := 6) hown' hk' hins hini'
    (g := F0 m pc ls rest) rfl (by rw [hb]; exact d0) (Nat.le_refl _) (Nat.le_refl _)
  generalize hT1 : (T.setVm vm₁).pushCell { cls := cX, slots := kX.instanceTypes.map defaultValue, vm := .none } = T1 at X₁ st1
  have hcat : (Value.ref T.heap.size).category = 1 := rfl
  have hcellA : T1.heap[T.heap.size]? = some (freshCell cX kX) := by rw [← hT1]; exact State.heap_pushCell_size _ _
  have d3' : decode c.code (pc + 3) = .ok (.dup, 1) := by rw [hb]; exact d3
  obtain ⟨U, hsteps, hrun, hend, hW, hsame, ce, hce, hO⟩ := X₁.ctorThrow0 hexec htr (own := own) (cls := cls) (names := names) (ic := ic) hown' hcls hnames h (fun x hx => nomatch hx) hfX hkX hcellA (by rw [hhp, hT]; exact Nat.le_refl _)
    (g := { method := m, pc := pc + 4, locals := ls, stack := .ref T.heap.size :: .ref T.heap.size :: rest, locked := none }) rfl hsize rfl rfl (rest := rest) rfl
    (by rw [hb]; exact d4) (by rw [hb]; exact d7) hout hRframes (by simp only [List.map_cons, List.sum_cons, hcat]; omega) hlocks
  obtain ⟨f1, f2⟩ := vx_frame hsame
  rw [hhp] at f1 f2
  have hWs : s.WarmedH U.vm := State.WarmedH.trans hW0 hW
  have hcl : s.vm.findClass cls = some ce.cls := by
    have h9 := hO.cls
    rw [hvm] at h9
    exact h9
  have hall : s.sameButNew ({ U with vm := s.vm } : State) locs mc ms := by
    subst hA
    obtain ⟨e1, e2⟩ := hsame
    rw [State.setFrames_setFrames] at e1
    have h2 : (T.setVm s.vm).sameButNew ({ U with vm := s.vm } : State) [] (0 + 1) (0 + 6) := ⟨e1, e2⟩
    have h3 := X.same.trans h2
    rw [List.append_nil] at h3
    exact h3.mono hc hs
  refine ⟨U, ?_, .threw T.heap.size, hrun, hend, Or.inr ⟨T.heap.size, rfl, cls, ce, locs, hx U hWs.alike f1 (fun q hq => f2 q hq (fun z hz => nomatch hz)), hce, hO.vm, hcl, hWs, hall, hf⟩⟩
  refine st1 _ ?_
  show Steps p.tables e below (T1.setTop { method := m, pc := pc + 3, locals := ls, stack := .ref T.heap.size :: rest, locked := none }) _
  jvm_step X₁.here [X₁.here.top, hexec, d3', Value.category]
  exact hsteps
/-- 'throw new E("text")': new; dup; ldc; invokespecial; athrow -/
theorem vx_throwS {cc : ByteArray} {pc : Nat} (hexec : p.tables.exec = Jvm.exec) (hb : c.code = cc) (hl : l.stackTraces = false) {own cls text : String} {names : List String} {ik is ic mc ms sa : Nat} {A : Nat → Prop}
    (hown : s.vm.findClass own = some m.cls) (hcls : Bundle.fit cls = true) (hnames : ∀ n ∈ names, Bundle.fit n = true)
    (hk : (Cond.classLink own ik cls).before args s = true) (hini : (Cond.initialized cls).before args s = true) (hstr : vk_R own is text sa s) (hat : ∀ w ∈ vx_atS own ic cls names, w.before args s = true)
    (hgood : ∀ w ∈ Cond.classLink own ik cls :: Cond.initialized cls :: vx_atS own ic cls names, vx_ot w = true)
    (hU : vx_Zq Bundle.tN "UNASSIGNED_STACK" Bundle.steD A s s.heap) (hN : vx_Zq Bundle.tN "SUPPRESSED_SENTINEL" Bundle.listD A s s.heap) (hS : va_S A s.heap H locs) (hsize : ls.size = c.maxLocals)
    (d0 : decode cc pc = .ok (.new ik, 3)) (d3 : decode cc (pc + 3) = .ok (.dup, 1)) (d4 : decode cc (pc + 4) = .ok (.ldc is, 2)) (d6 : decode cc (pc + 6) = .ok (.invokespecial ic, 3)) (d9 : decode cc (pc + 9) = .ok (.athrow, 1))
    (hout : ∀ x ∈ c.exceptionTable.toList, covers x (pc + 9) = false)
    (hRframes : names.length + 3 < R.frames) (hRlocals : (rest.map fun v => v.category).sum + (13 * (names.length + 1) + 43) ≤ R.locals) (hRcells : cells + 1 ≤ R.cells) (hRslots : slots + 6 ≤ R.slots) (hlocks : meth.locks = false)
    (hx : ∀ t : State, s.vm.Alike t.vm → H.size ≤ t.heap.size → (∀ q : Nat, q < H.size → t.heap[q]? = H[q]?) → XC cls s t)
    (hf : ∀ z ∈ locs, free z.base) (hc : cells + 1 ≤ mc) (hs : slots + 6 ≤ ms) :
    W p l e R s m args below meth c H locs cells slots (vx_MQ below Qc XC args s mc ms free) (F0 m pc ls rest) := by
  intro T hT X
  have htr : e.platform.stackTraces = false := (show e.platform.stackTraces = l.stackTraces by rw [X.admits.platform]).trans hl
  have Y := vx_rebase X (R' := { frames := R.frames, locals := R.locals, cells := 1, slots := 6 }) (Nat.le_refl _) (Nat.le_refl _) hRcells hRslots
  obtain ⟨s', hA⟩ : ∃ z, z = (T.setVm s.vm).setFrames (.invoking m args :: below) := ⟨_, rfl⟩
  rw [← hA] at Y
  have hvm : s'.vm = s.vm := by rw [hA]; rfl
  have hhp : s'.heap = H := by rw [hA]; exact hT
  have hW0 : s.WarmedH s'.vm := by rw [hvm]; exact State.WarmedH.refl s
  have hat' : ∀ w ∈ vx_atS own ic cls names, w.before args s' = true := fun w hw => vx_ot_at hW0 hvm.symm (hgood w (List.mem_cons_of_mem _ (List.mem_cons_of_mem _ hw))) (hat w hw)
  have hk' : (Cond.classLink own ik cls).before args s' = true := vx_ot_at hW0 hvm.symm (hgood _ List.mem_cons_self) hk
  have hini' : (Cond.initialized cls).before args s' = true := vx_ot_at hW0 hvm.symm (hgood _ (List.mem_cons_of_mem _ List.mem_cons_self)) hini
  have hU' : vx_Zq Bundle.tN "UNASSIGNED_STACK" Bundle.steD A s' s'.heap := by rw [hhp]; exact vx_Zq.moved hW0.alike (hU.kept hS.2.1)
  have hN' : vx_Zq Bundle.tN "SUPPRESSED_SENTINEL" Bundle.listD A s' s'.heap := by rw [hhp]; exact vx_Zq.moved hW0.alike (hN.kept hS.2.1)
  have h : ∀ w ∈ Bundle.ownAtoms own ic cls names, w.before args s' = true := vx_own hat' (vx_isRefq hU'.1) (vx_isRefq hN'.1) hU'.2.word hN'.2.word
  have hown' : s'.vm.findClass own = some m.cls := by rw [hvm]; exact hown
  have hins : (Cond.instantiable cls 6).before args s' = true := h _ (by simp [Bundle.ownAtoms])
  obtain ⟨vm₁, cX, kX, hfX, hkX, -, -, X₁, st1⟩ := Y.newCold hexec (own := own) (C := cls) (index := ik) (n := 6) hown' hk' hins hini'
    (g := F0 m pc ls rest) rfl (by rw [hb]; exact d0) (Nat.le_refl _) (Nat.le_refl _)
  generalize hT1 : (T.setVm vm₁).pushCell { cls := cX, slots := kX.instanceTypes.map defaultValue, vm := .none } = T1 at X₁ st1
  have hcat : (Value.ref T.heap.size).category = 1 := rfl
  have hcellA : T1.heap[T.heap.size]? = some (freshCell cX kX) := by rw [← hT1]; exact State.heap_pushCell_size _ _
  have d3' : decode c.code (pc + 3) = .ok (.dup, 1) := by rw [hb]; exact d3
  have d4' : decode c.code (pc + 4) = .ok (.ldc is, 2) := by rw [hb]; exact d4
  have hstr' : vk_R own is text sa s' := vk_R.warm hW0 hstr
  obtain ⟨U, hsteps, hrun, hend, hW, hsame, ce, hce, hO⟩ := X₁.ctorThrowS hexec htr (own := own) (cls := cls) (names := names) (ic := ic) hown' hcls hnames h (fun x hx => nomatch hx) hfX hkX hcellA (by rw [hhp, hT]; exact Nat.le_refl _) (msg := .ref sa) rfl
    (g := { method := m, pc := pc + 6, locals := ls, stack := .ref sa :: .ref T.heap.size :: .ref T.heap.size :: rest, locked := none }) rfl hsize rfl rfl (rest := rest) rfl
    (by rw [hb]; exact d6) (by rw [hb]; exact d9) hout hRframes (by simp only [List.map_cons, List.sum_cons, hcat]; omega) hlocks
  obtain ⟨f1, f2⟩ := vx_frame hsame
  rw [hhp] at f1 f2
  have hWs : s.WarmedH U.vm := State.WarmedH.trans hW0 hW
  have hcl : s.vm.findClass cls = some ce.cls := by
    have h9 := hO.cls
    rw [hvm] at h9
    exact h9
  have hall : s.sameButNew ({ U with vm := s.vm } : State) locs mc ms := by
    subst hA
    obtain ⟨e1, e2⟩ := hsame
    rw [State.setFrames_setFrames] at e1
    have h2 : (T.setVm s.vm).sameButNew ({ U with vm := s.vm } : State) [] (0 + 1) (0 + 6) := ⟨e1, e2⟩
    have h3 := X.same.trans h2
    rw [List.append_nil] at h3
    exact h3.mono hc hs
  refine ⟨U, ?_, .threw T.heap.size, hrun, hend, Or.inr ⟨T.heap.size, rfl, cls, ce, locs, hx U hWs.alike f1 (fun q hq => f2 q hq (fun z hz => nomatch hz)), hce, hO.vm, hcl, hWs, hall, hf⟩⟩
  refine st1 _ ?_
  show Steps p.tables e below (T1.setTop { method := m, pc := pc + 3, locals := ls, stack := .ref T.heap.size :: rest, locked := none }) _
  jvm_step X₁.here [X₁.here.top, hexec, d3', Value.category]
  exact X₁.ldcString hexec (own := own) (text := text) (index := is) (a := sa) hown' hstr'.1 hstr'.2
    (g := { method := m, pc := pc + 4, locals := ls, stack := .ref T.heap.size :: .ref T.heap.size :: rest, locked := none }) rfl d4' _ hsteps
/-- 'throw new E("text")', the text by a wide index -/
theorem vx_throwSW {cc : ByteArray} {pc : Nat} (hexec : p.tables.exec = Jvm.exec) (hb : c.code = cc) (hl : l.stackTraces = false) {own cls text : String} {names : List String} {ik is ic mc ms sa : Nat} {A : Nat → Prop}
    (hown : s.vm.findClass own = some m.cls) (hcls : Bundle.fit cls = true) (hnames : ∀ n ∈ names, Bundle.fit n = true)
    (hk : (Cond.classLink own ik cls).before args s = true) (hini : (Cond.initialized cls).before args s = true) (hstr : vk_R own is text sa s) (hat : ∀ w ∈ vx_atS own ic cls names, w.before args s = true)
    (hgood : ∀ w ∈ Cond.classLink own ik cls :: Cond.initialized cls :: vx_atS own ic cls names, vx_ot w = true)
    (hU : vx_Zq Bundle.tN "UNASSIGNED_STACK" Bundle.steD A s s.heap) (hN : vx_Zq Bundle.tN "SUPPRESSED_SENTINEL" Bundle.listD A s s.heap) (hS : va_S A s.heap H locs) (hsize : ls.size = c.maxLocals)
    (d0 : decode cc pc = .ok (.new ik, 3)) (d3 : decode cc (pc + 3) = .ok (.dup, 1)) (d4 : decode cc (pc + 4) = .ok (.ldc_w is, 3)) (d7 : decode cc (pc + 7) = .ok (.invokespecial ic, 3)) (d10 : decode cc (pc + 10) = .ok (.athrow, 1))
    (hout : ∀ x ∈ c.exceptionTable.toList, covers x (pc + 10) = false)
    (hRframes : names.length + 3 < R.frames) (hRlocals : (rest.map fun v => v.category).sum + (13 * (names.length + 1) + 43) ≤ R.locals) (hRcells : cells + 1 ≤ R.cells) (hRslots : slots + 6 ≤ R.slots) (hlocks : meth.locks = false)
    (hx : ∀ t : State, s.vm.Alike t.vm → H.size ≤ t.heap.size → (∀ q : Nat, q < H.size → t.heap[q]? = H[q]?) → XC cls s t)
    (hf : ∀ z ∈ locs, free z.base) (hc : cells + 1 ≤ mc) (hs : slots + 6 ≤ ms) :
    W p l e R s m args below meth c H locs cells slots (vx_MQ below Qc XC args s mc ms free) (F0 m pc ls rest) := by
  intro T hT X
  have htr : e.platform.stackTraces = false := (show e.platform.stackTraces = l.stackTraces by rw [X.admits.platform]).trans hl
  have Y := vx_rebase X (R' := { frames := R.frames, locals := R.locals, cells := 1, slots := 6 }) (Nat.le_refl _) (Nat.le_refl _) hRcells hRslots
  obtain ⟨s', hA⟩ : ∃ z, z = (T.setVm s.vm).setFrames (.invoking m args :: below) := ⟨_, rfl⟩
  rw [← hA] at Y
  have hvm : s'.vm = s.vm := by rw [hA]; rfl
  have hhp : s'.heap = H := by rw [hA]; exact hT
  have hW0 : s.WarmedH s'.vm := by rw [hvm]; exact State.WarmedH.refl s
  have hat' : ∀ w ∈ vx_atS own ic cls names, w.before args s' = true := fun w hw => vx_ot_at hW0 hvm.symm (hgood w (List.mem_cons_of_mem _ (List.mem_cons_of_mem _ hw))) (hat w hw)
  have hk' : (Cond.classLink own ik cls).before args s' = true := vx_ot_at hW0 hvm.symm (hgood _ List.mem_cons_self) hk
  have hini' : (Cond.initialized cls).before args s' = true := vx_ot_at hW0 hvm.symm (hgood _ (List.mem_cons_of_mem _ List.mem_cons_self)) hini
  have hU' : vx_Zq Bundle.tN "UNASSIGNED_STACK" Bundle.steD A s' s'.heap := by rw [hhp]; exact vx_Zq.moved hW0.alike (hU.kept hS.2.1)
  have hN' : vx_Zq Bundle.tN "SUPPRESSED_SENTINEL" Bundle.listD A s' s'.heap := by rw [hhp]; exact vx_Zq.moved hW0.alike (hN.kept hS.2.1)
  have h : ∀ w ∈ Bundle.ownAtoms own ic cls names, w.before args s' = true := vx_own hat' (vx_isRefq hU'.1) (vx_isRefq hN'.1) hU'.2.word hN'.2.word
  have hown' : s'.vm.findClass own = some m.cls := by rw [hvm]; exact hown
  have hins : (Cond.instantiable cls 6).before args s' = true := h _ (by simp [Bundle.ownAtoms])
  obtain ⟨vm₁, cX, kX, hfX, hkX, -, -, X₁, st1⟩ := Y.newCold hexec (own := own) (C := cls) (index := ik) (n := 6) hown' hk' hins hini'
    (g := F0 m pc ls rest) rfl (by rw [hb]; exact d0) (Nat.le_refl _) (Nat.le_refl _)
  generalize hT1 : (T.setVm vm₁).pushCell { cls := cX, slots := kX.instanceTypes.map defaultValue, vm := .none } = T1 at X₁ st1
  have hcat : (Value.ref T.heap.size).category = 1 := rfl
  have hcellA : T1.heap[T.heap.size]? = some (freshCell cX kX) := by rw [← hT1]; exact State.heap_pushCell_size _ _
  have d3' : decode c.code (pc + 3) = .ok (.dup, 1) := by rw [hb]; exact d3
  have d4' : decode c.code (pc + 4) = .ok (.ldc_w is, 3) := by rw [hb]; exact d4
  have hstr' : vk_R own is text sa s' := vk_R.warm hW0 hstr
  obtain ⟨U, hsteps, hrun, hend, hW, hsame, ce, hce, hO⟩ := X₁.ctorThrowS hexec htr (own := own) (cls := cls) (names := names) (ic := ic) hown' hcls hnames h (fun x hx => nomatch hx) hfX hkX hcellA (by rw [hhp, hT]; exact Nat.le_refl _) (msg := .ref sa) rfl
    (g := { method := m, pc := pc + 7, locals := ls, stack := .ref sa :: .ref T.heap.size :: .ref T.heap.size :: rest, locked := none }) rfl hsize rfl rfl (rest := rest) rfl
    (by rw [hb]; exact d7) (by rw [hb]; exact d10) hout hRframes (by simp only [List.map_cons, List.sum_cons, hcat]; omega) hlocks
  obtain ⟨f1, f2⟩ := vx_frame hsame
  rw [hhp] at f1 f2
  have hWs : s.WarmedH U.vm := State.WarmedH.trans hW0 hW
  have hcl : s.vm.findClass cls = some ce.cls := by
    have h9 := hO.cls
    rw [hvm] at h9
    exact h9
  have hall : s.sameButNew ({ U with vm := s.vm } : State) locs mc ms := by
    subst hA
    obtain ⟨e1, e2⟩ := hsame
    rw [State.setFrames_setFrames] at e1
    have h2 : (T.setVm s.vm).sameButNew ({ U with vm := s.vm } : State) [] (0 + 1) (0 + 6) := ⟨e1, e2⟩
    have h3 := X.same.trans h2
    rw [List.append_nil] at h3
    exact h3.mono hc hs
  refine ⟨U, ?_, .threw T.heap.size, hrun, hend, Or.inr ⟨T.heap.size, rfl, cls, ce, locs, hx U hWs.alike f1 (fun q hq => f2 q hq (fun z hz => nomatch hz)), hce, hO.vm, hcl, hWs, hall, hf⟩⟩
  refine st1 _ ?_
  show Steps p.tables e below (T1.setTop { method := m, pc := pc + 3, locals := ls, stack := .ref T.heap.size :: rest, locked := none }) _
  jvm_step X₁.here [X₁.here.top, hexec, d3', Value.category]
  exact X₁.ldcStringW hexec (own := own) (text := text) (index := is) (a := sa) hown' hstr'.1 hstr'.2
    (g := { method := m, pc := pc + 4, locals := ls, stack := .ref T.heap.size :: .ref T.heap.size :: rest, locked := none }) rfl d4' _ hsteps
end Ends
section Bodies
variable {l : Launch}
theorem vx_ofW {y : MethodName} {ws ws' : List Cond} {rm : Room} {Pc : Array Value → State → Prop} {Qc : Array Value → State → Outcome → State → Prop} {XC : String → State → State → Prop} {mc ms : Nat} {free : Addr → Prop} {cc : ByteArray} {maxL : Nat} {ret : Option FieldType}
    (hy : plainName y.cls = true) (hw : ws = Cond.code y cc maxL ret :: ws')
    (body : ∀ p e s m args below meth c s₁, BodyLoose p l y (headSpec ws rm) cc maxL ret e s m args below meth c s₁ → c.maxLocals = maxL → (∀ x ∈ c.exceptionTable.toList, False) → Pc args s →
      W p l e (headSpec ws rm).room s m args below meth c s.heap [] 0 0 (vx_MQ below Qc XC args s mc ms free) (entryFrame m args maxL)) : vx_Met l y ws rm Pc Qc XC mc ms free := by
  refine MetFree.of_bodyS (code := cc) (maxLocals := maxL) (ret := ret) hy ?_ ?_
  · intro args s m h hn
    obtain ⟨meth, c, h1, h2, h3, h4, h5, h6, -, -⟩ := Cond.code_spec hn (atoms_spec (ws := ws) h _ (by rw [hw]; exact List.mem_cons_self))
    exact ⟨meth, c, h1, h2, h3, h4, h5, h6⟩
  · intro p e s m args below meth c s₁ B hml hP _
    have hh0 : s₁.heap = s.heap := by rw [B.state]; rfl
    have ht : ∀ x ∈ c.exceptionTable.toList, False := by
      obtain ⟨meth9, c9, h1, h2, -, -, -, -, h7, -⟩ := Cond.code_spec B.named (atoms_spec (ws := ws) B.pre _ (by rw [hw]; exact List.mem_cons_self))
      cases Option.some.inj (h1.symm.trans B.method)
      cases Option.some.inj (h2.symm.trans (Stand.of_body B).code)
      intro x hx
      rw [Array.isEmpty_iff.mp h7] at hx
      cases hx
    obtain ⟨t, a1, o, b1, b2, b3⟩ := body p e s m args below meth c s₁ B hml ht hP s₁ hh0 (Stand.of_body B)
    exact ⟨t, o, a1, b1, b2, b3⟩
/-- the table of a body with handlers -/
theorem vx_table {p : Program} {x y : MethodName} {S : Spec} {cc bytes : ByteArray} {maxL maxL' : Nat} {ret ret' : Option FieldType} {e : Env} {s s₁ : State} {m : MethodId} {args : Array Value} {below : List Frame} {meth : Method} {c : Code} {hh : List (Nat × Nat × Nat × Nat)}
    (B : BodyLoose p l y S cc maxL ret e s m args below meth c s₁) (h : (Cond.codeWith y bytes maxL' ret' hh).before args s = true) : c.exceptionTable.toList = tableOf hh := by
  obtain ⟨m9, meth9, c9, hn9, h1, h2, -, -, h6, -⟩ := Cond.codeWith_spec h
  cases Option.some.inj (hn9.symm.trans B.named)
  cases Option.some.inj (h1.symm.trans B.method)
  cases Option.some.inj (h2.symm.trans (Stand.of_body B).code)
  rw [← h6, table_eq]
end Bodies
end VXA
/-! ===== END ===== -/
/-! ===== BEGIN a static call of a method with an exception table ===== -/
section VXS
variable {p : Program} {l : Launch} {e : Env} {R : Room} {s : State} {m : MethodId} {args : Array Value} {below : List Frame} {meth : Method} {c : Code} {T : State} {H : Heap} {locs : List Loc} {cells slots : Nat}
abbrev vx_CSW (R : Room) (s : State) (args : Array Value) (own : String) (index : Nat) (y : MethodName) (bytes : ByteArray) (maxL : Nat) (ret : Option FieldType) (hh : List (Nat × Nat × Nat × Nat)) (ws : List Cond) (rm : Room) (mc ms n : Nat) : Prop :=
  (rm.cells = mc ∧ rm.slots = ms ∧ rm.frames + 1 ≤ R.frames ∧ 8 + (maxL + 11) + rm.locals ≤ R.locals ∧ (∀ w ∈ ws, ∀ (a' : Array Value) (U : State), s.WarmedH U.vm → w.before a' U = true) ∧ Cond.codeWith y bytes maxL ret hh ∈ ws) ∧
  (Cond.codeWith y bytes maxL ret hh).before args s = true ∧ (Cond.initialized y.cls).before args s = true ∧ (y.cls ≠ "java/lang/invoke/MethodHandle" ∧ y.cls ≠ "java/lang/invoke/VarHandle") ∧
  (∀ sig, parseMethodDescriptor y.desc = some sig → n = sig.parameters.length) ∧ (Cond.methodLink own index y).before args s = true ∧ (Cond.static y).before args s = true
theorem vx_cwSW {own : String} {index maxL mc ms : Nat} {y : MethodName} {bytes : ByteArray} {ret : Option FieldType} {hh : List (Nat × Nat × Nat × Nat)} {Ts ws ws' : List Cond} {rm : Room} (n : Nat) (ht : ∀ w ∈ Ts, w.before args s = true) (hT : GoodIn Ts (va_wsS own index y ws)) (hw : ws = Cond.codeWith y bytes maxL ret hh :: ws') (hrc : rm.cells = mc) (hrs : rm.slots = ms)
    (hd : y.cls ≠ "java/lang/invoke/MethodHandle" ∧ y.cls ≠ "java/lang/invoke/VarHandle" ∧ (parseMethodDescriptor y.desc).map (fun d => d.parameters.length) = some n) (hR : rm.frames + 1 ≤ R.frames ∧ 8 + (maxL + 11) + rm.locals ≤ R.locals) :
    vx_CSW R s args own index y bytes maxL ret hh ws rm mc ms n := by
  have ok : ∀ w ∈ va_wsS own index y ws, w.before args s = true := fun w h => ht w (hT w h).1
  have hG : GoodIn Ts ws := fun w h => hT w (by unfold va_wsS; exact List.mem_append_right _ h)
  have hc : Cond.codeWith y bytes maxL ret hh ∈ ws := by rw [hw]; exact List.mem_cons_self
  refine ⟨⟨hrc, hrs, hR.1, hR.2, pay_in ht hG, hc⟩, ht _ (hG _ hc).1, ok _ (by simp [va_wsS]), ⟨hd.1, hd.2.1⟩, fun sig h => ?_, ok _ (by simp [va_wsS]), ok _ (by simp [va_wsS])⟩
  have h2 := hd.2.2
  rw [h] at h2
  exact (Option.some.inj h2).symm
theorem vx_callSW (X : Stand p l e R s m args below meth c T locs cells slots) (hexec : p.tables.exec = Jvm.exec) {own : String} {index : Nat} {y : MethodName} {bytes : ByteArray} {maxL : Nat} {ret : Option FieldType} {hh : List (Nat × Nat × Nat × Nat)}
    (hown : s.vm.findClass own = some m.cls) (hlink : (Cond.methodLink own index y).before args s = true) (hstat : (Cond.static y).before args s = true) (hinit : (Cond.initialized y.cls).before args s = true)
    (hcode : (Cond.codeWith y bytes maxL ret hh).before args s = true) (hy : y.cls ≠ "java/lang/invoke/MethodHandle" ∧ y.cls ≠ "java/lang/invoke/VarHandle")
    {W9 : Nat} {Pre : Pt → Array Value → Prop} {Post : Pt → Array Value → Option Value → Pt → Prop} (hK : Back l R p e below s args y 3 W9 Pre Post)
    {g : JFrame} (hg : g.method = m) (hsize : g.locals.size = c.maxLocals) {argsL rest : List Value} (hlen : ∀ sig, parseMethodDescriptor y.desc = some sig → argsL.length = sig.parameters.length)
    (hstack : g.stack = argsL.reverse ++ rest) (hW : 2 * g.monitorRoom + (rest.map fun v => v.category).sum ≤ W9) (hdg : decode c.code g.pc = .ok (.invokestatic index, 3))
    (hpre : ∀ vm₁, s.WarmedH vm₁ → Pre ⟨T.setVm vm₁, locs, cells, slots⟩ argsL.toArray) :
    ∃ (v : Option Value) (vm₁ : Vm) (B : Pt), s.WarmedH vm₁ ∧ Stand p l e R s m args below meth c B.U B.locs B.cells B.slots ∧ Post ⟨T.setVm vm₁, locs, cells, slots⟩ argsL.toArray v B ∧
      ∀ target, Steps p.tables e below (B.U.setTop { g with pc := g.pc + 3, stack := v.toList ++ rest }) target → Steps p.tables e below (T.setTop g) target := by
  obtain ⟨mk, methM, cM, hnamed, hmethM, -, -, -, -, -, -, hsigM⟩ := Cond.codeWith_spec hcode
  have hstatic : methM.isStatic = true := Cond.static_spec hnamed hmethM hstat
  obtain ⟨kP, hkP, -⟩ := className_of_methodNamed hnamed
  have hinitP : kP.init = .initialized := Cond.initialized_spec (findClass_of_methodNamed hnamed) hkP hinit
  obtain ⟨vm₁, X₁, hstep₁⟩ := X.invokestatic hexec hown hlink hnamed hmethM hstatic hkP hinitP hy (g := g) hg (argsL := argsL) (rest := rest) (hlen _ hsigM) hstack hdg
  obtain ⟨v, B, X', hpost, hsteps⟩ := hK m meth c ⟨T.setVm vm₁, locs, cells, slots⟩ { g with stack := rest } (.invokestatic index) mk argsL.toArray X₁ hg hsize hdg hW (X₁.named hnamed) (hpre vm₁ X₁.warmed)
  exact ⟨v, vm₁, B, X₁.warmed, X', hpost, fun target h => hstep₁ _ fun acts => by rw [doInvoke_state]; exact hsteps.trans h⟩
theorem vx_runSW {y : MethodName} {bytes cc : ByteArray} {maxL nL mc ms n index : Nat} {ret : Option FieldType} {hh : List (Nat × Nat × Nat × Nat)} {ws : List Cond} {rm : Room} {Pc : Array Value → State → Prop} {Qc : Array Value → State → Outcome → State → Prop} {free : Addr → Prop} {Ts : List Cond} {own : String} {As rest : List Value} {g : JFrame}
    (S : CallFix p m c cc nL s args Ts own) (hM : Met l y ws rm Pc Qc mc ms free) (cw : vx_CSW R s args own index y bytes maxL ret hh ws rm mc ms n) (hp : PreS s H Pc As)
    (hg : g.method = m) (hn : As.length = n) (hsize : g.locals.size = nL) (hstack : g.stack = As.reverse ++ rest) (hW : 2 * g.monitorRoom + (rest.map fun v => v.category).sum ≤ 8) (hdg : decode cc g.pc = .ok (.invokestatic index, 3)) (hf : cells + mc ≤ R.cells ∧ slots + ms ≤ R.slots) :
    va_Run p l e R s m args below meth c H locs cells slots mc ms g rest (Qc As.toArray) (free) := by
  obtain ⟨⟨hrc, hrs, hfr, hlo, hws, hcw⟩, hcode, hini, hy, hlen, hl, hstt⟩ := cw
  have hK : Back l R p e below s args y 3 8 (PreOf R mc ms Pc) (PostOf Qc mc ms free) := va_backW (hh := hh) (bytes := bytes) (maxL := maxL) (ret := ret) hM hp.1 hrc hrs hfr hlo hws hcw (fun a' U hW => word_at hW (Or.inl (by first | rfl | simp [Cond.onTables, Cond.keeps, Cond.steady])) hini)
  obtain ⟨hx, hb, hml, ho, -⟩ := S
  intro T hT X
  obtain ⟨v, vm₁, ⟨U', l2, c2, s2⟩, hW₁, X', ⟨g', mk, t, L, e1, e2, hq, h1, hL, h2, h3⟩, st⟩ := vx_callSW X hx (hh := hh) (bytes := bytes) (maxL := maxL) (ret := ret) ho hl hstt hini hcode hy hK hg (hsize.trans hml.symm) (argsL := As) (rest := rest) (fun sig h => hn.trans (hlen sig h)) hstack hW (by rw [hb]; exact hdg)
    (fun vm₁ hW₁ => ⟨hf.1, hf.2, hp.2 (T.setVm vm₁) hT hW₁⟩)
  dsimp only [Pt.U, Pt.locs, Pt.cells, Pt.slots] at X' e1 e2 h1 h2 h3 st
  subst h1; subst h2; subst h3
  exact ⟨v, (T.setVm vm₁).calling g' mk As.toArray, t, U', L, hT, X', hL, e1, e2, hq, st⟩
/-- not caught here, past rows that name other classes: it goes on to the caller -/
theorem vx_outP {p : Program} {l : Launch} {e : Env} {R : Room} {s : State} {m : MethodId} {args : Array Value} {below : List Frame} {meth : Method} {c : Code} {H : Heap} {locs : List Loc} {cells slots : Nat} {free : Addr → Prop} {ls : Array Slot} {rest : List Value} {Qc : Array Value → State → Outcome → State → Prop} {XC : String → State → State → Prop}
    {pc : Nat} {own E : String} {ce : Cell} {q : Addr} {mc ms : Nat} (hown : s.vm.findClass own = some m.cls) (hlocks : meth.locks = false)
    (hpass : ∀ z ∈ c.exceptionTable.toList, covers z pc = false ∨ (z.catchType ≠ 0 ∧ ∃ nm : String, (Cond.classLink own z.catchType nm).before args s = true ∧ va_Nc E nm s)) (hcell : H[q]? = some ce) (hv : ce.vm = .none) (hcl : s.vm.findClass E = some ce.cls)
    (hx : ∀ t : State, t.heap = H → s.vm.Alike t.vm → XC E s t) (hf : ∀ z ∈ locs, free z.base) (hc : cells ≤ mc) (hs : slots ≤ ms) :
    vx_W p l e R s m args below meth c H locs cells slots (vx_MQ below Qc XC args s mc ms free) (F0 m pc ls rest) q := by
  intro T hT X
  have hpl : e.platform.magicAccessors = ({} : Platform).magicAccessors := by rw [X.admits.platform]
  obtain ⟨vm', hW', X', st⟩ := X.outThrough hlocks q (g := F0 m pc ls rest) rfl rfl rfl (cell := ce) (by rw [hT]; exact hcell) (by rw [hv]; rfl)
    (by obtain ⟨k9, h9, -⟩ := Vm.findClass_spec hcl; exact ⟨k9, h9⟩) (fun z hz => by
      rcases hpass z hz with h | ⟨hz0, nm, hl1, hn1⟩
      · exact Or.inl h
      · obtain ⟨c6, hc6, hcl6⟩ := Cond.classLink_spec hown hl1 e.platform hpl
        obtain ⟨a8, b8, h1, h2, h3⟩ := hn1
        cases Option.some.inj (h1.symm.trans hcl)
        cases Option.some.inj (h2.symm.trans hc6)
        exact Or.inr ⟨hz0, _, hcl6, h3⟩)
  obtain ⟨g₀, hfr⟩ := X'.frames_eq
  have hcell9 : ((T.setVm vm').setFrames (.throwing q :: below)).heap[q]? = some ce := by
    show T.heap[q]? = some ce
    rw [hT]; exact hcell
  have hend : Ended ((T.setVm vm').setFrames (.throwing q :: below)) below (.threw q) := State.frames_setFrames _ (State.cur_lt_of_frames hfr)
  refine ⟨(T.setVm vm').setFrames (.throwing q :: below), ?_, .threw q, X'.here.running, hend, Or.inr ⟨q, rfl, E, ce, locs, hx _ hT (X'.ends _).1.alike, hcell9, hv, hcl, (X'.ends _).1, (X'.ends _).2.mono hc hs, hf⟩⟩
  rw [X.pushThrowing_eq]
  exact st
/-- a thing of a world lies in the heap -/
theorem vx_lt {D : va_G} {cl : List vw_C} {ws : va_W} {H1 : Heap} (h : va_P D cl ws H1) {k : Nat} {q : Nat × va_E} (hk : ws[k]? = some q) : q.1 < H1.size := (h k q hk).lt
end VXS
/-! ===== END ===== -/
/-! ===== BEGIN methods with a table of their own: called by a name, returning or throwing ===== -/
section VXH
/-! vx_backW, vx_callVX, vx_callSX, vx_callVW, vx_runVW, vx_runVX, vx_runSX, vx_ofWH follow the same proofs as their sisters above (Free/Laws.lean, Shelf42/LK1.lean); vx_outP calls Shelf42/NT130.lean (outThrough). -/
section
variable {l : Launch} {R : Room} {p : Program} {e : Env} {below : List Frame} {s : State} {sargs : Array Value} {y : MethodName} {len W9 : Nat}
theorem vx_backW {ws : List Cond} {rm : Room} {Pc : Array Value → State → Prop} {Qc : Array Value → State → Outcome → State → Prop} {XC : String → State → State → Prop} {mc ms : Nat} {free : Addr → Prop} {bytes : ByteArray} {maxL : Nat} {ret : Option FieldType} {hh : List (Nat × Nat × Nat × Nat)}
    (hM : vx_Met l y ws rm Pc Qc XC mc ms free) (hblind : FrameBlind Pc) (hrc : rm.cells = mc) (hrs : rm.slots = ms)
    (hframes : rm.frames + 1 ≤ R.frames) (hlocals : W9 + (maxL + 11) + rm.locals ≤ R.locals)
    (hws : ∀ w ∈ ws, ∀ a' U, s.WarmedH U.vm → w.before a' U = true) (hcode : Cond.codeWith y bytes maxL ret hh ∈ ws) (hinit : ∀ a' U, s.WarmedH U.vm → (Cond.initialized y.cls).before a' U = true) :
    vx_Back l R p e below s sargs y len W9 (PreOf R mc ms Pc) (PostOf Qc mc ms free) (vx_Post XC mc ms free) := by
  intro m meth c A g ig mk a X hg hsize hdg hW hn hp
  have h1 : (headSpec ws rm).pre.before a A.U = true := atoms_intro fun w hw => hws w hw _ _ X.warmed
  have h2 : (Cond.codeWith y bytes maxL ret hh).before a A.U = true := hws _ hcode _ _ X.warmed
  have h3 : (Cond.initialized y.cls).before a A.U = true := hinit _ _ X.warmed
  have h4 : A.cells + (headSpec ws rm).room.cells ≤ R.cells := by rw [show (headSpec ws rm).room.cells = mc from hrc]; exact hp.1
  have h5 : A.slots + (headSpec ws rm).room.slots ≤ R.slots := by rw [show (headSpec ws rm).room.slots = ms from hrs]; exact hp.2.1
  have hPc : Pc a (A.U.calling g mk a) := hblind _ _ _ _ hp.2.2
  obtain ⟨U, Ls, c0, s0⟩ := A
  dsimp only [Pt.U, Pt.locs, Pt.cells, Pt.slots] at h1 h2 h3 h4 h5 X hn hPc ⊢
  obtain ⟨m9, methY, cY, hn9, hmY, hcY, -, hlY, -⟩ := Cond.codeWith_spec h2
  cases Option.some.inj (hn9.symm.trans hn)
  obtain ⟨kY, hkY, -⟩ := className_of_methodNamed hn
  have hinitY : kY.init = .initialized := Cond.initialized_spec (findClass_of_methodNamed hn) hkY h3
  have h : At U g.method c below := by rw [hg]; exact X.here
  have hlocals9 : W9 + (maxL + 11) + (headSpec ws rm).room.locals ≤ R.locals := hlocals
  have happ : (headSpec ws rm).appliesLoose y e.platform (U.calling g mk a) = true :=
    Spec.appliesLoose_calling (g := g) h hdg hn hkY hinitY
      (X.room_calling (g := g) (R' := (headSpec ws rm).room) hsize hmY hcY hframes (by rw [hlY]; omega) h4 h5) h1
  obtain ⟨mid, hmid⟩ := h.above
  have hfr : (U.setTop g).frames = (.java g :: mid) ++ below := by rw [State.frames_setTop' g h.top, hmid]; rfl
  obtain ⟨o, s₂, hsteps, -, hend, hq⟩ := Steps.callFree hM p X.admits X.cas X.clock (acts := []) hfr happ hPc trivial
  have hq' : vx_Q Qc XC mc ms free a (U.calling g mk a) o s₂ := hq
  rw [State.frames_setTop' g h.top] at hend
  obtain ⟨g₀, hg0⟩ := Option.isSome_iff_exists.mp h.top
  obtain ⟨r, hr⟩ := State.topJava?_eq_some.mp hg0
  have hr' : (({ U with heap := s₂.heap, slotsUsed := s₂.slotsUsed } : State).setVm s₂.vm).frames = .java g₀ :: r := hr
  rcases hq' with ⟨hqc, L, hfe, hL⟩ | ⟨q, rfl, E, ce, L, hx, hce, hcv, hcl, hW₂, hsm, hL⟩
  · obtain ⟨⟨v, rfl⟩, hW₂, e2, q2, q3, q4, q5, q6⟩ := id hfe
    have e3 : s₂ = ({ (U.calling g mk a).setFrames s₂.frames with heap := s₂.heap, slotsUsed := s₂.slotsUsed } : State).setVm s₂.vm := by
      have : s₂ = ({ s₂ with vm := (U.calling g mk a).vm } : State).setVm s₂.vm := rfl
      rw [e2] at this
      exact this
    obtain ⟨c₂, i₂, len₂, hc₂, hd₂, hf₂⟩ := hend
    have hW' : U.WarmedH s₂.vm := hW₂
    have hcc : c₂ = c := by
      have h1 : s₂.code? g.method = U.code? g.method := by
        rw [State.code?_eq, State.code?_eq, hW'.alike.method?]
      exact Option.some.inj (hc₂.symm.trans (h1.trans h.code))
    subst hcc
    have hlen : len₂ = len := by rw [hdg] at hd₂; cases hd₂; rfl
    subst hlen
    have hs₂ : s₂ = (({ U with heap := s₂.heap, slotsUsed := s₂.slotsUsed } : State).setVm s₂.vm).setTop { g with pc := g.pc + len₂, stack := v.toList ++ g.stack } := by
      refine e3.trans ?_
      rw [hf₂, State.calling_eq h.top, State.setFrames_setFrames, State.setTop_of_frames _ hr', hr]
      rfl
    have hsame : U.sameButNew ({ U with heap := s₂.heap, slotsUsed := s₂.slotsUsed } : State) L mc ms := by
      refine ⟨?_, q2, q3, q4, q5, q6⟩
      obtain ⟨t, ht, -⟩ := State.frames_cons hr
      show ({ U with heap := s₂.heap, slotsUsed := s₂.slotsUsed } : State) = { U.setFrames U.frames with heap := s₂.heap, slotsUsed := s₂.slotsUsed }
      rw [State.setFrames_self ht]
    subst hg
    refine Or.inl ⟨v, ⟨(({ U with heap := s₂.heap, slotsUsed := s₂.slotsUsed } : State).setVm s₂.vm), Ls ++ L, c0 + mc, s0 + ms⟩,
      ⟨X.admits, X.cas, X.clock, X.frames, X.room, X.hears, X.method, X.code, (X.here.setHeapUsed s₂.heap s₂.slotsUsed).setVm hW'.alike, X.tail, State.WarmedH.trans X.warmed hW', X.limits, X.bytes, X.same.trans (hsame.setVm s.vm)⟩,
      ⟨g, mk, s₂, L, rfl, rfl, hqc, rfl, hL, rfl, rfl⟩, ?_⟩
    show Steps p.tables e below _ ((({ U with heap := s₂.heap, slotsUsed := s₂.slotsUsed } : State).setVm s₂.vm).setTop { g with pc := g.pc + len₂, stack := v.toList ++ g.stack })
    rw [← hs₂]
    exact hsteps
  · obtain ⟨e2, q2, q3, q4, q5, q6⟩ := id hsm
    have e3 : s₂ = ({ (U.calling g mk a).setFrames s₂.frames with heap := s₂.heap, slotsUsed := s₂.slotsUsed } : State).setVm s₂.vm := by
      have : s₂ = ({ s₂ with vm := (U.calling g mk a).vm } : State).setVm s₂.vm := rfl
      rw [e2] at this
      exact this
    have hf₂ : s₂.frames = .throwing q :: .java g :: U.frames.tail := hend
    have hW' : U.WarmedH s₂.vm := hW₂
    have hs₂ : s₂ = ((({ U with heap := s₂.heap, slotsUsed := s₂.slotsUsed } : State).setVm s₂.vm).setTop g).pushFrame (.throwing q) := by
      refine e3.trans ?_
      rw [hf₂, State.calling_eq h.top, State.setFrames_setFrames, State.pushFrame, State.frames_setTop _ hr', State.setTop_of_frames _ hr', State.setFrames_setFrames, hr]
      rfl
    have hsame : U.sameButNew ({ U with heap := s₂.heap, slotsUsed := s₂.slotsUsed } : State) L mc ms := by
      refine ⟨?_, q2, q3, q4, q5, q6⟩
      obtain ⟨t, ht, -⟩ := State.frames_cons hr
      show ({ U with heap := s₂.heap, slotsUsed := s₂.slotsUsed } : State) = { U.setFrames U.frames with heap := s₂.heap, slotsUsed := s₂.slotsUsed }
      rw [State.setFrames_self ht]
    subst hg
    refine Or.inr ⟨q, ⟨(({ U with heap := s₂.heap, slotsUsed := s₂.slotsUsed } : State).setVm s₂.vm), Ls ++ L, c0 + mc, s0 + ms⟩,
      ⟨X.admits, X.cas, X.clock, X.frames, X.room, X.hears, X.method, X.code, (X.here.setHeapUsed s₂.heap s₂.slotsUsed).setVm hW'.alike, X.tail, State.WarmedH.trans X.warmed hW', X.limits, X.bytes, X.same.trans (hsame.setVm s.vm)⟩,
      ⟨g, mk, s₂, L, E, ce, rfl, rfl, hx, hce, hcv, hcl, rfl, hL, rfl, rfl⟩, ?_⟩
    show Steps p.tables e below _ (((({ U with heap := s₂.heap, slotsUsed := s₂.slotsUsed } : State).setVm s₂.vm).setTop g).pushFrame (.throwing q))
    rw [← hs₂]
    exact hsteps
end
variable {p : Program} {l : Launch} {e : Env} {R : Room} {s : State} {m : MethodId} {args : Array Value} {below : List Frame} {meth : Method} {c : Code} {T : State} {H : Heap} {locs : List Loc} {cells slots : Nat}
theorem vx_callVX (X : Stand p l e R s m args below meth c T locs cells slots) (hexec : p.tables.exec = Jvm.exec) {own C : String} {index : Nat} {y : MethodName} {bytes : ByteArray} {maxL : Nat} {ret : Option FieldType} {hh : List (Nat × Nat × Nat × Nat)}
    (hown : s.vm.findClass own = some m.cls) (hlink : (Cond.methodLink own index y).before args s = true) (hinst : (Cond.instanceMethod y).before args s = true) (hsel : (Cond.selects C y y).before args s = true)
    (hcode : (Cond.codeWith y bytes maxL ret hh).before args s = true) (hy : y.cls ≠ "java/lang/invoke/MethodHandle" ∧ y.cls ≠ "java/lang/invoke/VarHandle")
    {W9 : Nat} {Pre : Pt → Array Value → Prop} {Post : Pt → Array Value → Option Value → Pt → Prop} {PostX : Pt → Array Value → Addr → Pt → Prop} (hK : vx_Back l R p e below s args y 3 W9 Pre Post PostX)
    {b : Addr} {cellB : Cell} (hcell : T.heap[b]? = some cellB) (hobj : cellB.vm.isStatics = false) (hcls : s.vm.findClass C = some cellB.cls)
    {g : JFrame} (hg : g.method = m) (hsize : g.locals.size = c.maxLocals) {argsL rest : List Value} (hlen : ∀ sig, parseMethodDescriptor y.desc = some sig → argsL.length = sig.parameters.length)
    (hstack : g.stack = argsL.reverse ++ .ref b :: rest) (hW : 2 * g.monitorRoom + (rest.map fun v => v.category).sum ≤ W9) (hdg : decode c.code g.pc = .ok (.invokevirtual index, 3))
    (hpre : ∀ vm₁, s.WarmedH vm₁ → Pre ⟨T.setVm vm₁, locs, cells, slots⟩ (Value.ref b :: argsL).toArray) :
    (∃ (v : Option Value) (vm₁ : Vm) (B : Pt), s.WarmedH vm₁ ∧ Stand p l e R s m args below meth c B.U B.locs B.cells B.slots ∧ Post ⟨T.setVm vm₁, locs, cells, slots⟩ (Value.ref b :: argsL).toArray v B ∧
      ∀ target, Steps p.tables e below (B.U.setTop { g with pc := g.pc + 3, stack := v.toList ++ rest }) target → Steps p.tables e below (T.setTop g) target) ∨
    (∃ (q : Addr) (vm₁ : Vm) (B : Pt), s.WarmedH vm₁ ∧ Stand p l e R s m args below meth c B.U B.locs B.cells B.slots ∧ PostX ⟨T.setVm vm₁, locs, cells, slots⟩ (Value.ref b :: argsL).toArray q B ∧
      Steps p.tables e below (T.setTop g) ((B.U.setTop { g with stack := rest }).pushFrame (.throwing q))) := by
  obtain ⟨mk, methM, hnamed, hmethM, hstM, habM⟩ := Cond.instanceMethod_spec hinst
  obtain ⟨m8, methM', cM, hn8, hmethM', -, -, -, -, -, -, hsigM⟩ := Cond.codeWith_spec hcode
  cases Option.some.inj (hn8.symm.trans hnamed)
  cases hmethM.symm.trans hmethM'
  obtain ⟨c2, r2, m2, q1, q2, q3, q4, kP, hkP, hkPi⟩ := Cond.selects_spec hsel
  cases hcls.symm.trans q1
  cases (State.methodFound?_of_named hnamed hy).symm.trans q2
  cases hnamed.symm.trans q3
  have hselP : selectMethod e.platform s.vm cellB.cls mk = .method mk := by rw [Launch.admits_selectMethod X.admits]; exact q4
  obtain ⟨vm₁, X₁, hstep₁⟩ := X.invokevirtual hexec hown hlink hnamed hmethM hstM hkP hkPi hy (a := b) (cell := cellB) hcell
    (fun z h => by rw [h] at hobj; cases hobj) hselP hmethM habM hkP hkPi (g := g) hg (argsL := argsL) (rest := rest) (hlen _ hsigM) hstack hdg
  rcases hK m meth c ⟨T.setVm vm₁, locs, cells, slots⟩ { g with stack := rest } (.invokevirtual index) mk (Value.ref b :: argsL).toArray X₁ hg hsize hdg hW (X₁.named hnamed) (hpre vm₁ X₁.warmed) with ⟨v, B, X', hpost, hsteps⟩ | ⟨q, B, X', hpost, hsteps⟩
  · exact Or.inl ⟨v, vm₁, B, X₁.warmed, X', hpost, fun target h => hstep₁ _ fun acts => by rw [doInvoke_state]; exact hsteps.trans h⟩
  · exact Or.inr ⟨q, vm₁, B, X₁.warmed, X', hpost, hstep₁ _ fun acts => by rw [doInvoke_state]; exact hsteps⟩
theorem vx_callSX (X : Stand p l e R s m args below meth c T locs cells slots) (hexec : p.tables.exec = Jvm.exec) {own : String} {index : Nat} {y : MethodName} {bytes : ByteArray} {maxL : Nat} {ret : Option FieldType} {hh : List (Nat × Nat × Nat × Nat)}
    (hown : s.vm.findClass own = some m.cls) (hlink : (Cond.methodLink own index y).before args s = true) (hstat : (Cond.static y).before args s = true) (hinit : (Cond.initialized y.cls).before args s = true)
    (hcode : (Cond.codeWith y bytes maxL ret hh).before args s = true) (hy : y.cls ≠ "java/lang/invoke/MethodHandle" ∧ y.cls ≠ "java/lang/invoke/VarHandle")
    {W9 : Nat} {Pre : Pt → Array Value → Prop} {Post : Pt → Array Value → Option Value → Pt → Prop} {PostX : Pt → Array Value → Addr → Pt → Prop} (hK : vx_Back l R p e below s args y 3 W9 Pre Post PostX)
    {g : JFrame} (hg : g.method = m) (hsize : g.locals.size = c.maxLocals) {argsL rest : List Value} (hlen : ∀ sig, parseMethodDescriptor y.desc = some sig → argsL.length = sig.parameters.length)
    (hstack : g.stack = argsL.reverse ++ rest) (hW : 2 * g.monitorRoom + (rest.map fun v => v.category).sum ≤ W9) (hdg : decode c.code g.pc = .ok (.invokestatic index, 3))
    (hpre : ∀ vm₁, s.WarmedH vm₁ → Pre ⟨T.setVm vm₁, locs, cells, slots⟩ argsL.toArray) :
    (∃ (v : Option Value) (vm₁ : Vm) (B : Pt), s.WarmedH vm₁ ∧ Stand p l e R s m args below meth c B.U B.locs B.cells B.slots ∧ Post ⟨T.setVm vm₁, locs, cells, slots⟩ argsL.toArray v B ∧
      ∀ target, Steps p.tables e below (B.U.setTop { g with pc := g.pc + 3, stack := v.toList ++ rest }) target → Steps p.tables e below (T.setTop g) target) ∨
    (∃ (q : Addr) (vm₁ : Vm) (B : Pt), s.WarmedH vm₁ ∧ Stand p l e R s m args below meth c B.U B.locs B.cells B.slots ∧ PostX ⟨T.setVm vm₁, locs, cells, slots⟩ argsL.toArray q B ∧
      Steps p.tables e below (T.setTop g) ((B.U.setTop { g with stack := rest }).pushFrame (.throwing q))) := by
  obtain ⟨mk, methM, cM, hnamed, hmethM, -, -, -, -, -, -, hsigM⟩ := Cond.codeWith_spec hcode
  have hstatic : methM.isStatic = true := Cond.static_spec hnamed hmethM hstat
  obtain ⟨kP, hkP, -⟩ := className_of_methodNamed hnamed
  have hinitP : kP.init = .initialized := Cond.initialized_spec (findClass_of_methodNamed hnamed) hkP hinit
  obtain ⟨vm₁, X₁, hstep₁⟩ := X.invokestatic hexec hown hlink hnamed hmethM hstatic hkP hinitP hy (g := g) hg (argsL := argsL) (rest := rest) (hlen _ hsigM) hstack hdg
  rcases hK m meth c ⟨T.setVm vm₁, locs, cells, slots⟩ { g with stack := rest } (.invokestatic index) mk argsL.toArray X₁ hg hsize hdg hW (X₁.named hnamed) (hpre vm₁ X₁.warmed) with ⟨v, B, X', hpost, hsteps⟩ | ⟨q, B, X', hpost, hsteps⟩
  · exact Or.inl ⟨v, vm₁, B, X₁.warmed, X', hpost, fun target h => hstep₁ _ fun acts => by rw [doInvoke_state]; exact hsteps.trans h⟩
  · exact Or.inr ⟨q, vm₁, B, X₁.warmed, X', hpost, hstep₁ _ fun acts => by rw [doInvoke_state]; exact hsteps⟩
theorem vx_callVW (X : Stand p l e R s m args below meth c T locs cells slots) (hexec : p.tables.exec = Jvm.exec) {own C : String} {index : Nat} {y : MethodName} {bytes : ByteArray} {maxL : Nat} {ret : Option FieldType} {hh : List (Nat × Nat × Nat × Nat)}
    (hown : s.vm.findClass own = some m.cls) (hlink : (Cond.methodLink own index y).before args s = true) (hinst : (Cond.instanceMethod y).before args s = true) (hsel : (Cond.selects C y y).before args s = true)
    (hcode : (Cond.codeWith y bytes maxL ret hh).before args s = true) (hy : y.cls ≠ "java/lang/invoke/MethodHandle" ∧ y.cls ≠ "java/lang/invoke/VarHandle")
    {W9 : Nat} {Pre : Pt → Array Value → Prop} {Post : Pt → Array Value → Option Value → Pt → Prop} (hK : Back l R p e below s args y 3 W9 Pre Post)
    {b : Addr} {cellB : Cell} (hcell : T.heap[b]? = some cellB) (hobj : cellB.vm.isStatics = false) (hcls : s.vm.findClass C = some cellB.cls)
    {g : JFrame} (hg : g.method = m) (hsize : g.locals.size = c.maxLocals) {argsL rest : List Value} (hlen : ∀ sig, parseMethodDescriptor y.desc = some sig → argsL.length = sig.parameters.length)
    (hstack : g.stack = argsL.reverse ++ .ref b :: rest) (hW : 2 * g.monitorRoom + (rest.map fun v => v.category).sum ≤ W9) (hdg : decode c.code g.pc = .ok (.invokevirtual index, 3))
    (hpre : ∀ vm₁, s.WarmedH vm₁ → Pre ⟨T.setVm vm₁, locs, cells, slots⟩ (Value.ref b :: argsL).toArray) :
    ∃ (v : Option Value) (vm₁ : Vm) (B : Pt), s.WarmedH vm₁ ∧ Stand p l e R s m args below meth c B.U B.locs B.cells B.slots ∧ Post ⟨T.setVm vm₁, locs, cells, slots⟩ (Value.ref b :: argsL).toArray v B ∧
      ∀ target, Steps p.tables e below (B.U.setTop { g with pc := g.pc + 3, stack := v.toList ++ rest }) target → Steps p.tables e below (T.setTop g) target := by
  obtain ⟨mk, methM, hnamed, hmethM, hstM, habM⟩ := Cond.instanceMethod_spec hinst
  obtain ⟨m8, methM', cM, hn8, hmethM', -, -, -, -, -, -, hsigM⟩ := Cond.codeWith_spec hcode
  cases Option.some.inj (hn8.symm.trans hnamed)
  cases hmethM.symm.trans hmethM'
  obtain ⟨c2, r2, m2, q1, q2, q3, q4, kP, hkP, hkPi⟩ := Cond.selects_spec hsel
  cases hcls.symm.trans q1
  cases (State.methodFound?_of_named hnamed hy).symm.trans q2
  cases hnamed.symm.trans q3
  have hselP : selectMethod e.platform s.vm cellB.cls mk = .method mk := by rw [Launch.admits_selectMethod X.admits]; exact q4
  obtain ⟨vm₁, X₁, hstep₁⟩ := X.invokevirtual hexec hown hlink hnamed hmethM hstM hkP hkPi hy (a := b) (cell := cellB) hcell
    (fun z h => by rw [h] at hobj; cases hobj) hselP hmethM habM hkP hkPi (g := g) hg (argsL := argsL) (rest := rest) (hlen _ hsigM) hstack hdg
  obtain ⟨v, B, X', hpost, hsteps⟩ := hK m meth c ⟨T.setVm vm₁, locs, cells, slots⟩ { g with stack := rest } (.invokevirtual index) mk (Value.ref b :: argsL).toArray X₁ hg hsize hdg hW (X₁.named hnamed) (hpre vm₁ X₁.warmed)
  exact ⟨v, vm₁, B, X₁.warmed, X', hpost, fun target h => hstep₁ _ fun acts => by rw [doInvoke_state]; exact hsteps.trans h⟩
abbrev vx_CVW (R : Room) (s : State) (args : Array Value) (own C : String) (index : Nat) (y : MethodName) (bytes : ByteArray) (maxL : Nat) (ret : Option FieldType) (hh : List (Nat × Nat × Nat × Nat)) (ws : List Cond) (rm : Room) (mc ms n : Nat) : Prop :=
  (rm.cells = mc ∧ rm.slots = ms ∧ rm.frames + 1 ≤ R.frames ∧ 8 + (maxL + 11) + rm.locals ≤ R.locals ∧ (∀ w ∈ ws, ∀ (a' : Array Value) (U : State), s.WarmedH U.vm → w.before a' U = true) ∧ Cond.codeWith y bytes maxL ret hh ∈ ws) ∧
  (Cond.codeWith y bytes maxL ret hh).before args s = true ∧ (Cond.initialized y.cls).before args s = true ∧ (y.cls ≠ "java/lang/invoke/MethodHandle" ∧ y.cls ≠ "java/lang/invoke/VarHandle") ∧
  (∀ sig, parseMethodDescriptor y.desc = some sig → n = sig.parameters.length) ∧ (Cond.methodLink own index y).before args s = true ∧ (Cond.instanceMethod y).before args s = true ∧ (Cond.selects C y y).before args s = true
theorem vx_cwVW {own C : String} {index maxL mc ms : Nat} {y : MethodName} {bytes : ByteArray} {ret : Option FieldType} {hh : List (Nat × Nat × Nat × Nat)} {Ts ws ws' : List Cond} {rm : Room} (n : Nat) (ht : ∀ w ∈ Ts, w.before args s = true) (hT : GoodIn Ts (wsV own index C y ws)) (hw : ws = Cond.codeWith y bytes maxL ret hh :: ws') (hrc : rm.cells = mc) (hrs : rm.slots = ms)
    (hd : y.cls = C ∧ y.cls ≠ "java/lang/invoke/MethodHandle" ∧ y.cls ≠ "java/lang/invoke/VarHandle" ∧ (parseMethodDescriptor y.desc).map (fun d => d.parameters.length) = some n) (hR : rm.frames + 1 ≤ R.frames ∧ 8 + (maxL + 11) + rm.locals ≤ R.locals) :
    vx_CVW R s args own C index y bytes maxL ret hh ws rm mc ms n := by
  obtain ⟨hC, hd⟩ := hd
  subst hC
  have ok : ∀ w ∈ wsV own index y.cls y ws, w.before args s = true := fun w h => ht w (hT w h).1
  have hG : GoodIn Ts ws := fun w h => hT w (by unfold wsV; exact List.mem_append_right _ h)
  have hc : Cond.codeWith y bytes maxL ret hh ∈ ws := by rw [hw]; exact List.mem_cons_self
  refine ⟨⟨hrc, hrs, hR.1, hR.2, pay_in ht hG, hc⟩, ht _ (hG _ hc).1, ok _ (by simp [wsV]), ⟨hd.1, hd.2.1⟩, fun sig h => ?_, ok _ (by simp [wsV]), ok _ (by simp [wsV]), ok _ (by simp [wsV])⟩
  have h2 := hd.2.2
  rw [h] at h2
  exact (Option.some.inj h2).symm
theorem vx_runVW {y : MethodName} {bytes cc : ByteArray} {maxL nL mc ms n index : Nat} {ret : Option FieldType} {hh : List (Nat × Nat × Nat × Nat)} {ws : List Cond} {rm : Room} {Pc : Array Value → State → Prop} {Qc : Array Value → State → Outcome → State → Prop} {free : Addr → Prop} {Ts : List Cond} {own C : String} {b : Addr} {As rest : List Value} {g : JFrame}
    (S : CallFix p m c cc nL s args Ts own) (hM : Met l y ws rm Pc Qc mc ms free) (cw : vx_CVW R s args own C index y bytes maxL ret hh ws rm mc ms n) (hp : PreV s H C b Pc As)
    (hg : g.method = m) (hn : As.length = n) (hsize : g.locals.size = nL) (hstack : g.stack = As.reverse ++ .ref b :: rest) (hW : 2 * g.monitorRoom + (rest.map fun v => v.category).sum ≤ 8) (hdg : decode cc g.pc = .ok (.invokevirtual index, 3)) (hf : cells + mc ≤ R.cells ∧ slots + ms ≤ R.slots) :
    va_Run p l e R s m args below meth c H locs cells slots mc ms g rest (Qc (Value.ref b :: As).toArray) free := by
  obtain ⟨⟨hrc, hrs, hfr, hlo, hws, hcw⟩, hcode, hini, hy, hlen, hl, hin, hse⟩ := cw
  have hK : Back l R p e below s args y 3 8 (PreOf R mc ms Pc) (PostOf Qc mc ms free) := va_backW (hh := hh) (bytes := bytes) (maxL := maxL) (ret := ret) hM hp.1 hrc hrs hfr hlo hws hcw (fun a' U hW => word_at hW (Or.inl (by first | rfl | simp [Cond.onTables, Cond.keeps, Cond.steady])) hini)
  obtain ⟨hx, hb, hml, ho, -⟩ := S
  obtain ⟨-, ⟨cellB, hcB, hoB, hclB⟩, hPc⟩ := hp
  intro T hT X
  obtain ⟨v, vm₁, ⟨U', l2, c2, s2⟩, hW₁, X', ⟨g', mk, t, L, e1, e2, hq, h1, hL, h2, h3⟩, st⟩ := vx_callVW X hx (C := C) (hh := hh) (bytes := bytes) (maxL := maxL) (ret := ret) ho hl hin hse hcode hy hK (by rw [hT]; exact hcB) hoB hclB hg (hsize.trans hml.symm) (argsL := As) (rest := rest) (fun sig h => hn.trans (hlen sig h)) hstack hW (by rw [hb]; exact hdg)
    (fun vm₁ hW₁ => ⟨hf.1, hf.2, hPc (T.setVm vm₁) hT hW₁⟩)
  dsimp only [Pt.U, Pt.locs, Pt.cells, Pt.slots] at X' e1 e2 h1 h2 h3 st
  subst h1; subst h2; subst h3
  exact ⟨v, (T.setVm vm₁).calling g' mk (Value.ref b :: As).toArray, t, U', L, hT, X', hL, e1, e2, hq, st⟩
section
variable {y : MethodName} {bytes cc : ByteArray} {maxL nL mc ms n index : Nat} {ret : Option FieldType} {ws : List Cond} {rm : Room} {Pc : Array Value → State → Prop} {Qc : Array Value → State → Outcome → State → Prop} {XC : String → State → State → Prop} {free : Addr → Prop} {Ts : List Cond} {own C : String} {b : Addr} {As rest : List Value} {g : JFrame}
theorem vx_runVX {hh : List (Nat × Nat × Nat × Nat)} (S : CallFix p m c cc nL s args Ts own) (hM : vx_Met l y ws rm Pc Qc XC mc ms free) (cw : vx_CVW R s args own C index y bytes maxL ret hh ws rm mc ms n) (hp : PreV s H C b Pc As)
    (hg : g.method = m) (hn : As.length = n) (hsize : g.locals.size = nL) (hstack : g.stack = As.reverse ++ .ref b :: rest) (hW : 2 * g.monitorRoom + (rest.map fun v => v.category).sum ≤ 8) (hdg : decode cc g.pc = .ok (.invokevirtual index, 3)) (hf : cells + mc ≤ R.cells ∧ slots + ms ≤ R.slots) :
    vx_Run p l e R s m args below meth c H locs cells slots mc ms g rest (Qc (Value.ref b :: As).toArray) XC free := by
  obtain ⟨⟨hrc, hrs, hfr, hlo, hws, hcw⟩, hcode, hini, hy, hlen, hl, hin, hse⟩ := cw
  have hK : vx_Back l R p e below s args y 3 8 (PreOf R mc ms Pc) (PostOf Qc mc ms free) (vx_Post XC mc ms free) := vx_backW (hh := hh) (bytes := bytes) (maxL := maxL) (ret := ret) hM hp.1 hrc hrs hfr hlo hws hcw (fun a' U hW => word_at hW (Or.inl (by first | rfl | simp [Cond.onTables, Cond.keeps, Cond.steady])) hini)
  obtain ⟨hx, hb, hml, ho, -⟩ := S
  obtain ⟨-, ⟨cellB, hcB, hoB, hclB⟩, hPc⟩ := hp
  intro T hT X
  rcases vx_callVX X hx (C := C) (hh := hh) (bytes := bytes) (maxL := maxL) (ret := ret) ho hl hin hse hcode hy hK (by rw [hT]; exact hcB) hoB hclB hg (hsize.trans hml.symm) (argsL := As) (rest := rest) (fun sig h => hn.trans (hlen sig h)) hstack hW (by rw [hb]; exact hdg)
    (fun vm₁ hW₁ => ⟨hf.1, hf.2, hPc (T.setVm vm₁) hT hW₁⟩) with ⟨v, vm₁, ⟨U', l2, c2, s2⟩, hW₁, X', ⟨g', mk, t, L, e1, e2, hq, h1, hL, h2, h3⟩, st⟩ | ⟨q, vm₁, ⟨U', l2, c2, s2⟩, hW₁, X', ⟨g', mk, t, L, E, ce, e1, e2, hq, hce, hcv, hcl, h1, hL, h2, h3⟩, st⟩
  · dsimp only [Pt.U, Pt.locs, Pt.cells, Pt.slots] at X' e1 e2 h1 h2 h3 st
    subst h1; subst h2; subst h3
    exact Or.inl ⟨v, (T.setVm vm₁).calling g' mk (Value.ref b :: As).toArray, t, U', L, hT, X', hL, e1, e2, hq, st⟩
  · dsimp only [Pt.U, Pt.locs, Pt.cells, Pt.slots] at X' e1 e2 h1 h2 h3 st hcl
    subst h1; subst h2; subst h3
    exact Or.inr ⟨q, (T.setVm vm₁).calling g' mk (Value.ref b :: As).toArray, t, U', L, E, ce, hT, X', hL, e1, e2, hq, hce, hcv, vx_cls hW₁ hcl, st⟩
theorem vx_runSX {hh : List (Nat × Nat × Nat × Nat)} (S : CallFix p m c cc nL s args Ts own) (hM : vx_Met l y ws rm Pc Qc XC mc ms free) (cw : vx_CSW R s args own index y bytes maxL ret hh ws rm mc ms n) (hp : PreS s H Pc As)
    (hg : g.method = m) (hn : As.length = n) (hsize : g.locals.size = nL) (hstack : g.stack = As.reverse ++ rest) (hW : 2 * g.monitorRoom + (rest.map fun v => v.category).sum ≤ 8) (hdg : decode cc g.pc = .ok (.invokestatic index, 3)) (hf : cells + mc ≤ R.cells ∧ slots + ms ≤ R.slots) :
    vx_Run p l e R s m args below meth c H locs cells slots mc ms g rest (Qc As.toArray) XC free := by
  obtain ⟨⟨hrc, hrs, hfr, hlo, hws, hcw⟩, hcode, hini, hy, hlen, hl, hstt⟩ := cw
  have hK : vx_Back l R p e below s args y 3 8 (PreOf R mc ms Pc) (PostOf Qc mc ms free) (vx_Post XC mc ms free) := vx_backW (hh := hh) (bytes := bytes) (maxL := maxL) (ret := ret) hM hp.1 hrc hrs hfr hlo hws hcw (fun a' U hW => word_at hW (Or.inl (by first | rfl | simp [Cond.onTables, Cond.keeps, Cond.steady])) hini)
  obtain ⟨hx, hb, hml, ho, -⟩ := S
  intro T hT X
  rcases vx_callSX X hx (hh := hh) (bytes := bytes) (maxL := maxL) (ret := ret) ho hl hstt hini hcode hy hK hg (hsize.trans hml.symm) (argsL := As) (rest := rest) (fun sig h => hn.trans (hlen sig h)) hstack hW (by rw [hb]; exact hdg)
    (fun vm₁ hW₁ => ⟨hf.1, hf.2, hp.2 (T.setVm vm₁) hT hW₁⟩) with ⟨v, vm₁, ⟨U', l2, c2, s2⟩, hW₁, X', ⟨g', mk, t, L, e1, e2, hq, h1, hL, h2, h3⟩, st⟩ | ⟨q, vm₁, ⟨U', l2, c2, s2⟩, hW₁, X', ⟨g', mk, t, L, E, ce, e1, e2, hq, hce, hcv, hcl, h1, hL, h2, h3⟩, st⟩
  · dsimp only [Pt.U, Pt.locs, Pt.cells, Pt.slots] at X' e1 e2 h1 h2 h3 st
    subst h1; subst h2; subst h3
    exact Or.inl ⟨v, (T.setVm vm₁).calling g' mk As.toArray, t, U', L, hT, X', hL, e1, e2, hq, st⟩
  · dsimp only [Pt.U, Pt.locs, Pt.cells, Pt.slots] at X' e1 e2 h1 h2 h3 st hcl
    subst h1; subst h2; subst h3
    exact Or.inr ⟨q, (T.setVm vm₁).calling g' mk As.toArray, t, U', L, E, ce, hT, X', hL, e1, e2, hq, hce, hcv, vx_cls hW₁ hcl, st⟩
end
end VXH
theorem vx_ofWH {l : Launch} {y : MethodName} {ws ws' : List Cond} {rm : Room} {Pc : Array Value → State → Prop} {Qc : Array Value → State → Outcome → State → Prop} {XC : String → State → State → Prop} {mc ms : Nat} {free : Addr → Prop} {cc : ByteArray} {maxL : Nat} {ret : Option FieldType} {hh : List (Nat × Nat × Nat × Nat)}
    (hy : plainName y.cls = true) (hw : ws = Cond.codeWith y cc maxL ret hh :: ws')
    (body : ∀ p e s m args below meth c s₁, BodyLoose p l y (headSpec ws rm) cc maxL ret e s m args below meth c s₁ → c.maxLocals = maxL → Pc args s →
      W p l e (headSpec ws rm).room s m args below meth c s.heap [] 0 0 (vx_MQ below Qc XC args s mc ms free) (entryFrame m args maxL)) : vx_Met l y ws rm Pc Qc XC mc ms free := by
  refine MetFree.of_bodyS (code := cc) (maxLocals := maxL) (ret := ret) hy ?_ ?_
  · intro args s m h hn
    obtain ⟨m9, meth, c, hn9, h1, h2, h3, h4, -, h5, h6, -⟩ := Cond.codeWith_spec (atoms_spec (ws := ws) h _ (by rw [hw]; exact List.mem_cons_self))
    cases hn.symm.trans hn9
    exact ⟨meth, c, h1, h2, h3, h4, h5, h6⟩
  · intro p e s m args below meth c s₁ B hml hP _
    have hh0 : s₁.heap = s.heap := by rw [B.state]; rfl
    obtain ⟨t, a1, o, b1, b2, b3⟩ := body p e s m args below meth c s₁ B hml hP s₁ hh0 (Stand.of_body B)
    exact ⟨t, o, a1, b1, b2, b3⟩
/-! ===== END ===== -/
end
section
/-! ===== BEGIN printed: names, fields, word lists, decode rows ===== -/
def RX0 : String := "PinnedPantry$Row"
def TX0 : u_T := fun k => match k with
  | 0 => ("PinnedPantry$Row", "kinds", "[I", true)
  | _ => ("PinnedPantry$Row", "length", "I", false)
def tyX0 : Nat → FieldType := fun k => match k with
  | 0 => .array .int
  | _ => .int
abbrev wsX00 : List Cond := u_ws RX0 TX0 2
theorem nmX0 : ∀ a, a < 2 → ∀ b, b < 2 → a ≠ b → (TX0 a).2.1 ≠ (TX0 b).2.1 := by decide +kernel
theorem tyX0_ok : ∀ k, k < 2 → parseFieldDescriptor (TX0 k).2.2.1 = some (tyX0 k) := by decide +kernel
abbrev cX0_init : ByteArray := prog_2_method_1_code
def yX0_init : MethodName := ⟨RX0, "<init>", "()V"⟩
abbrev cX0_become : ByteArray := prog_2_method_2_code
def yX0_become : MethodName := ⟨RX0, "become", "(LPinnedPantry$Row;)V"⟩
abbrev cX0_at : ByteArray := prog_2_method_3_code
def yX0_at : MethodName := ⟨RX0, "at", "(I)I"⟩
abbrev cX0_placeOf : ByteArray := prog_2_method_4_code
def yX0_placeOf : MethodName := ⟨RX0, "placeOf", "(I)I"⟩
abbrev cX0_has : ByteArray := prog_2_method_5_code
def yX0_has : MethodName := ⟨RX0, "has", "(I)Z"⟩
abbrev cX0_append : ByteArray := prog_2_method_6_code
def yX0_append : MethodName := ⟨RX0, "append", "(I)V"⟩
abbrev cX0_takeOut : ByteArray := prog_2_method_7_code
def yX0_takeOut : MethodName := ⟨RX0, "takeOut", "(I)V"⟩
abbrev cX0_forgetEldest : ByteArray := prog_2_method_8_code
def yX0_forgetEldest : MethodName := ⟨RX0, "forgetEldest", "(I)V"⟩
abbrev cX0_digestKinds : ByteArray := prog_2_method_9_code
def yX0_digestKinds : MethodName := ⟨RX0, "digestKinds", "(J)J"⟩
def RX1 : String := "PinnedPantry$Store"
def TX1 : u_T := fun k => match k with
  | 0 => ("PinnedPantry$Store", "newRow", "LPinnedPantry$Row;", true)
  | 1 => ("PinnedPantry$Store", "triedRow", "LPinnedPantry$Row;", true)
  | 2 => ("PinnedPantry$Store", "newList", "LPinnedPantry$Row;", true)
  | 3 => ("PinnedPantry$Store", "triedList", "LPinnedPantry$Row;", true)
  | 4 => ("PinnedPantry$Store", "touches", "LPinnedPantry$Table;", true)
  | 5 => ("PinnedPantry$Store", "pins", "LPinnedPantry$Table;", true)
  | 6 => ("PinnedPantry$Store", "fetches", "LPinnedPantry$Table;", true)
  | 7 => ("PinnedPantry$Store", "places", "I", false)
  | 8 => ("PinnedPantry$Store", "goal", "I", false)
  | 9 => ("PinnedPantry$Store", "hits", "I", false)
  | 10 => ("PinnedPantry$Store", "misses", "I", false)
  | 11 => ("PinnedPantry$Store", "rememberedMisses", "I", false)
  | _ => ("PinnedPantry$Store", "looks", "I", false)
def tyX1 : Nat → FieldType := fun k => match k with
  | 0 => .object "PinnedPantry$Row"
  | 1 => .object "PinnedPantry$Row"
  | 2 => .object "PinnedPantry$Row"
  | 3 => .object "PinnedPantry$Row"
  | 4 => .object "PinnedPantry$Table"
  | 5 => .object "PinnedPantry$Table"
  | 6 => .object "PinnedPantry$Table"
  | 7 => .int
  | 8 => .int
  | 9 => .int
  | 10 => .int
  | 11 => .int
  | _ => .int
abbrev wsX10 : List Cond := u_ws RX1 TX1 13
theorem nmX1 : ∀ a, a < 13 → ∀ b, b < 13 → a ≠ b → (TX1 a).2.1 ≠ (TX1 b).2.1 := by decide +kernel
theorem tyX1_ok : ∀ k, k < 13 → parseFieldDescriptor (TX1 k).2.2.1 = some (tyX1 k) := by decide +kernel
abbrev cX1_init : ByteArray := prog_3_method_1_code
def yX1_init : MethodName := ⟨RX1, "<init>", "()V"⟩
abbrev cX1_become : ByteArray := prog_3_method_2_code
def yX1_become : MethodName := ⟨RX1, "become", "(LPinnedPantry$Store;)V"⟩
abbrev cX1_rowOf : ByteArray := prog_3_method_3_code
def yX1_rowOf : MethodName := ⟨RX1, "rowOf", "(I)LPinnedPantry$Row;"⟩
abbrev cX1_listOf : ByteArray := prog_3_method_4_code
def yX1_listOf : MethodName := ⟨RX1, "listOf", "(I)LPinnedPantry$Row;"⟩
abbrev cX1_hasJar : ByteArray := prog_3_method_5_code
def yX1_hasJar : MethodName := ⟨RX1, "hasJar", "(I)Z"⟩
abbrev cX1_jars : ByteArray := prog_3_method_6_code
def yX1_jars : MethodName := ⟨RX1, "jars", "()I"⟩
abbrev cX1_pinnedJars : ByteArray := prog_3_method_7_code
def yX1_pinnedJars : MethodName := ⟨RX1, "pinnedJars", "()I"⟩
abbrev cX1_pinnedOn : ByteArray := prog_3_method_8_code
def yX1_pinnedOn : MethodName := ⟨RX1, "pinnedOn", "(LPinnedPantry$Row;)I"⟩
abbrev cX1_forecast : ByteArray := prog_3_method_9_code
def yX1_forecast : MethodName := ⟨RX1, "forecast", "(I)I"⟩
abbrev cX1_bring : ByteArray := prog_3_method_10_code
def yX1_bring : MethodName := ⟨RX1, "bring", "(I)I"⟩
abbrev cX1_bringSeries : ByteArray := prog_3_method_11_code
def yX1_bringSeries : MethodName := ⟨RX1, "bringSeries", "(III)I"⟩
abbrev cX1_recall : ByteArray := prog_3_method_12_code
def yX1_recall : MethodName := ⟨RX1, "recall", "(II)V"⟩
abbrev cX1_turn : ByteArray := prog_3_method_13_code
def yX1_turn : MethodName := ⟨RX1, "turn", "(LPinnedPantry$Row;LPinnedPantry$Row;)I"⟩
abbrev cX1_placeNewJar : ByteArray := prog_3_method_14_code
def yX1_placeNewJar : MethodName := ⟨RX1, "placeNewJar", "(ILPinnedPantry$Row;)V"⟩
abbrev cX1_sweep : ByteArray := prog_3_method_15_code
def yX1_sweep : MethodName := ⟨RX1, "sweep", "()I"⟩
abbrev cX1_givingShelf : ByteArray := prog_3_method_16_code
def yX1_givingShelf : MethodName := ⟨RX1, "givingShelf", "()I"⟩
abbrev cX1_changePins : ByteArray := prog_3_method_17_code
def yX1_changePins : MethodName := ⟨RX1, "changePins", "(II)I"⟩
abbrev cX1_remove : ByteArray := prog_3_method_18_code
def yX1_remove : MethodName := ⟨RX1, "remove", "(I)I"⟩
abbrev cX1_resize : ByteArray := prog_3_method_19_code
def yX1_resize : MethodName := ⟨RX1, "resize", "(I)V"⟩
abbrev cX1_detail : ByteArray := prog_3_method_20_code
def yX1_detail : MethodName := ⟨RX1, "detail", "(II)I"⟩
abbrev cX1_tally : ByteArray := prog_3_method_21_code
def yX1_tally : MethodName := ⟨RX1, "tally", "(I)I"⟩
abbrev cX1_fetchesOfAll : ByteArray := prog_3_method_22_code
def yX1_fetchesOfAll : MethodName := ⟨RX1, "fetchesOfAll", "()I"⟩
abbrev cX1_digestJars : ByteArray := prog_3_method_23_code
def yX1_digestJars : MethodName := ⟨RX1, "digestJars", "(JLPinnedPantry$Row;)J"⟩
def RX2 : String := "PinnedPantry$Table"
def TX2 : u_T := fun k => match k with
  | _ => ("PinnedPantry$Table", "numbers", "[I", true)
def tyX2 : Nat → FieldType := fun k => match k with
  | _ => .array .int
abbrev wsX20 : List Cond := u_ws RX2 TX2 1
theorem nmX2 : ∀ a, a < 1 → ∀ b, b < 1 → a ≠ b → (TX2 a).2.1 ≠ (TX2 b).2.1 := by decide +kernel
theorem tyX2_ok : ∀ k, k < 1 → parseFieldDescriptor (TX2 k).2.2.1 = some (tyX2 k) := by decide +kernel
abbrev cX2_init : ByteArray := prog_4_method_1_code
def yX2_init : MethodName := ⟨RX2, "<init>", "()V"⟩
abbrev cX2_become : ByteArray := prog_4_method_2_code
def yX2_become : MethodName := ⟨RX2, "become", "(LPinnedPantry$Table;)V"⟩
abbrev cX2_of : ByteArray := prog_4_method_3_code
def yX2_of : MethodName := ⟨RX2, "of", "(I)I"⟩
abbrev cX2_put : ByteArray := prog_4_method_4_code
def yX2_put : MethodName := ⟨RX2, "put", "(II)V"⟩
def RX3 : String := "PinnedPantry"
def TX3 : u_T := fun k => match k with
  | 0 => ("PinnedPantry", "store", "LPinnedPantry$Store;", true)
  | _ => ("PinnedPantry", "rehearsal", "LPinnedPantry$Store;", true)
def tyX3 : Nat → FieldType := fun k => match k with
  | 0 => .object "PinnedPantry$Store"
  | _ => .object "PinnedPantry$Store"
abbrev wsX30 : List Cond := u_ws RX3 TX3 2
theorem nmX3 : ∀ a, a < 2 → ∀ b, b < 2 → a ≠ b → (TX3 a).2.1 ≠ (TX3 b).2.1 := by decide +kernel
theorem tyX3_ok : ∀ k, k < 2 → parseFieldDescriptor (TX3 k).2.2.1 = some (tyX3 k) := by decide +kernel
abbrev cX3_init : ByteArray := prog_1_method_1_code
def yX3_init : MethodName := ⟨RX3, "<init>", "()V"⟩
abbrev cX3_fetch : ByteArray := prog_1_method_2_code
def yX3_fetch : MethodName := ⟨RX3, "fetch", "(I)I"⟩
abbrev cX3_fetchAll : ByteArray := prog_1_method_3_code
def yX3_fetchAll : MethodName := ⟨RX3, "fetchAll", "(III)I"⟩
abbrev cX3_pin : ByteArray := prog_1_method_4_code
def yX3_pin : MethodName := ⟨RX3, "pin", "(I)I"⟩
abbrev cX3_unpin : ByteArray := prog_1_method_5_code
def yX3_unpin : MethodName := ⟨RX3, "unpin", "(I)I"⟩
abbrev cX3_eat : ByteArray := prog_1_method_6_code
def yX3_eat : MethodName := ⟨RX3, "eat", "(I)I"⟩
abbrev cX3_setPlaces : ByteArray := prog_1_method_7_code
def yX3_setPlaces : MethodName := ⟨RX3, "setPlaces", "(I)I"⟩
abbrev cX3_setGoal : ByteArray := prog_1_method_8_code
def yX3_setGoal : MethodName := ⟨RX3, "setGoal", "(I)I"⟩
abbrev cX3_jar : ByteArray := prog_1_method_9_code
def yX3_jar : MethodName := ⟨RX3, "jar", "(II)I"⟩
abbrev cX3_shelf : ByteArray := prog_1_method_10_code
def yX3_shelf : MethodName := ⟨RX3, "shelf", "(II)I"⟩
abbrev cX3_ghost : ByteArray := prog_1_method_11_code
def yX3_ghost : MethodName := ⟨RX3, "ghost", "(II)I"⟩
abbrev cX3_count : ByteArray := prog_1_method_12_code
def yX3_count : MethodName := ⟨RX3, "count", "(I)I"⟩
abbrev cX3_next : ByteArray := prog_1_method_13_code
def yX3_next : MethodName := ⟨RX3, "next", "()I"⟩
abbrev cX3_would : ByteArray := prog_1_method_14_code
def yX3_would : MethodName := ⟨RX3, "would", "(I)I"⟩
abbrev cX3_trial : ByteArray := prog_1_method_15_code
def yX3_trial : MethodName := ⟨RX3, "trial", "(III)I"⟩
abbrev cX3_advise : ByteArray := prog_1_method_16_code
def yX3_advise : MethodName := ⟨RX3, "advise", "(III)I"⟩
abbrev cX3_mean : ByteArray := prog_1_method_17_code
def yX3_mean : MethodName := ⟨RX3, "mean", "()D"⟩
abbrev cX3_digest : ByteArray := prog_1_method_18_code
def yX3_digest : MethodName := ⟨RX3, "digest", "()J"⟩
abbrev cX3_requireKind : ByteArray := prog_1_method_19_code
def yX3_requireKind : MethodName := ⟨RX3, "requireKind", "(I)V"⟩
abbrev cX3_requireSeries : ByteArray := prog_1_method_20_code
def yX3_requireSeries : MethodName := ⟨RX3, "requireSeries", "(III)V"⟩
abbrev cX3_requireShelf : ByteArray := prog_1_method_21_code
def yX3_requireShelf : MethodName := ⟨RX3, "requireShelf", "(I)V"⟩
abbrev cX3_requireAt : ByteArray := prog_1_method_22_code
def yX3_requireAt : MethodName := ⟨RX3, "requireAt", "(LPinnedPantry$Row;I)I"⟩
abbrev cX3_requireJar : ByteArray := prog_1_method_23_code
def yX3_requireJar : MethodName := ⟨RX3, "requireJar", "(I)V"⟩
def RX4 : String := "PinnedPantryModel"
def TX4 : u_T := fun k => match k with
  | 0 => ("PinnedPantryModel", "thrown", "I", false)
  | 1 => ("PinnedPantryModel", "jars", "[I", true)
  | 2 => ("PinnedPantryModel", "shelves", "[I", true)
  | 3 => ("PinnedPantryModel", "lists", "[I", true)
  | _ => ("PinnedPantryModel", "numbers", "[I", true)
def tyX4 : Nat → FieldType := fun k => match k with
  | 0 => .int
  | 1 => .array .int
  | 2 => .array .int
  | 3 => .array .int
  | _ => .array .int
abbrev wsX40 : List Cond := u_ws RX4 TX4 5
theorem nmX4 : ∀ a, a < 5 → ∀ b, b < 5 → a ≠ b → (TX4 a).2.1 ≠ (TX4 b).2.1 := by decide +kernel
theorem tyX4_ok : ∀ k, k < 5 → parseFieldDescriptor (TX4 k).2.2.1 = some (tyX4 k) := by decide +kernel
abbrev cX4_init : ByteArray := prog_6_method_1_code
def yX4_init : MethodName := ⟨RX4, "<init>", "()V"⟩
abbrev cX4_thrown : ByteArray := prog_6_method_2_code
def yX4_thrown : MethodName := ⟨RX4, "thrown", "()I"⟩
abbrev cX4_fail : ByteArray := prog_6_method_3_code
def yX4_fail : MethodName := ⟨RX4, "fail", "(I)I"⟩
abbrev cX4_isIn : ByteArray := prog_6_method_4_code
def yX4_isIn : MethodName := ⟨RX4, "isIn", "(III)Z"⟩
abbrev cX4_isKind : ByteArray := prog_6_method_5_code
def yX4_isKind : MethodName := ⟨RX4, "isKind", "(I)Z"⟩
abbrev cX4_ja : ByteArray := prog_6_method_6_code
def yX4_ja : MethodName := ⟨RX4, "ja", "(II)I"⟩
abbrev cX4_isThere : ByteArray := prog_6_method_7_code
def yX4_isThere : MethodName := ⟨RX4, "isThere", "(I)Z"⟩
abbrev cX4_many : ByteArray := prog_6_method_8_code
def yX4_many : MethodName := ⟨RX4, "many", "(I)I"⟩
abbrev cX4_all : ByteArray := prog_6_method_9_code
def yX4_all : MethodName := ⟨RX4, "all", "()I"⟩
abbrev cX4_kindAt : ByteArray := prog_6_method_10_code
def yX4_kindAt : MethodName := ⟨RX4, "kindAt", "(II)I"⟩
abbrev cX4_listed : ByteArray := prog_6_method_11_code
def yX4_listed : MethodName := ⟨RX4, "listed", "(I)I"⟩
abbrev cX4_listedAt : ByteArray := prog_6_method_12_code
def yX4_listedAt : MethodName := ⟨RX4, "listedAt", "(II)I"⟩
abbrev cX4_putLast : ByteArray := prog_6_method_13_code
def yX4_putLast : MethodName := ⟨RX4, "putLast", "(II)V"⟩
abbrev cX4_takeOut : ByteArray := prog_6_method_14_code
def yX4_takeOut : MethodName := ⟨RX4, "takeOut", "(II)V"⟩
abbrev cX4_takeOff : ByteArray := prog_6_method_15_code
def yX4_takeOff : MethodName := ⟨RX4, "takeOff", "(II)V"⟩
abbrev cX4_forget : ByteArray := prog_6_method_16_code
def yX4_forget : MethodName := ⟨RX4, "forget", "(I)V"⟩
abbrev cX4_remember : ByteArray := prog_6_method_17_code
def yX4_remember : MethodName := ⟨RX4, "remember", "(II)V"⟩
abbrev cX4_listPlace : ByteArray := prog_6_method_18_code
def yX4_listPlace : MethodName := ⟨RX4, "listPlace", "(II)I"⟩
abbrev cX4_placeOf : ByteArray := prog_6_method_19_code
def yX4_placeOf : MethodName := ⟨RX4, "placeOf", "(I)I"⟩
abbrev cX4_pinned : ByteArray := prog_6_method_20_code
def yX4_pinned : MethodName := ⟨RX4, "pinned", "()I"⟩
abbrev cX4_canGive : ByteArray := prog_6_method_21_code
def yX4_canGive : MethodName := ⟨RX4, "canGive", "(I)Z"⟩
abbrev cX4_sweep : ByteArray := prog_6_method_22_code
def yX4_sweep : MethodName := ⟨RX4, "sweep", "()I"⟩
abbrev cX4_canFetch : ByteArray := prog_6_method_23_code
def yX4_canFetch : MethodName := ⟨RX4, "canFetch", "(I)Z"⟩
abbrev cX4_listOf : ByteArray := prog_6_method_24_code
def yX4_listOf : MethodName := ⟨RX4, "listOf", "(I)I"⟩
abbrev cX4_told : ByteArray := prog_6_method_25_code
def yX4_told : MethodName := ⟨RX4, "told", "(I)I"⟩
abbrev cX4_fetched : ByteArray := prog_6_method_26_code
def yX4_fetched : MethodName := ⟨RX4, "fetched", "(I)I"⟩
abbrev cX4_fetch : ByteArray := prog_6_method_27_code
def yX4_fetch : MethodName := ⟨RX4, "fetch", "(I)I"⟩
abbrev cX4_hits : ByteArray := prog_6_method_28_code
def yX4_hits : MethodName := ⟨RX4, "hits", "(III)I"⟩
abbrev cX4_wrong : ByteArray := prog_6_method_29_code
def yX4_wrong : MethodName := ⟨RX4, "wrong", "(III)I"⟩
abbrev cX4_fetchAll : ByteArray := prog_6_method_30_code
def yX4_fetchAll : MethodName := ⟨RX4, "fetchAll", "(III)I"⟩
abbrev cX4_pin : ByteArray := prog_6_method_31_code
def yX4_pin : MethodName := ⟨RX4, "pin", "(I)I"⟩
abbrev cX4_unpin : ByteArray := prog_6_method_32_code
def yX4_unpin : MethodName := ⟨RX4, "unpin", "(I)I"⟩
abbrev cX4_eat : ByteArray := prog_6_method_33_code
def yX4_eat : MethodName := ⟨RX4, "eat", "(I)I"⟩
abbrev cX4_place : ByteArray := prog_6_method_34_code
def yX4_place : MethodName := ⟨RX4, "place", "(I)V"⟩
abbrev cX4_setPlaces : ByteArray := prog_6_method_35_code
def yX4_setPlaces : MethodName := ⟨RX4, "setPlaces", "(I)I"⟩
abbrev cX4_setGoal : ByteArray := prog_6_method_36_code
def yX4_setGoal : MethodName := ⟨RX4, "setGoal", "(I)I"⟩
abbrev cX4_jar : ByteArray := prog_6_method_37_code
def yX4_jar : MethodName := ⟨RX4, "jar", "(II)I"⟩
abbrev cX4_shelf : ByteArray := prog_6_method_38_code
def yX4_shelf : MethodName := ⟨RX4, "shelf", "(II)I"⟩
abbrev cX4_ghost : ByteArray := prog_6_method_39_code
def yX4_ghost : MethodName := ⟨RX4, "ghost", "(II)I"⟩
abbrev cX4_counted : ByteArray := prog_6_method_40_code
def yX4_counted : MethodName := ⟨RX4, "counted", "(I)I"⟩
abbrev cX4_count : ByteArray := prog_6_method_41_code
def yX4_count : MethodName := ⟨RX4, "count", "(I)I"⟩
abbrev cX4_kept : ByteArray := prog_6_method_42_code
def yX4_kept : MethodName := ⟨RX4, "kept", "()[[I"⟩
abbrev cX4_bringBack : ByteArray := prog_6_method_43_code
def yX4_bringBack : MethodName := ⟨RX4, "bringBack", "([[I)V"⟩
abbrev cX4_next : ByteArray := prog_6_method_44_code
def yX4_next : MethodName := ⟨RX4, "next", "()I"⟩
abbrev cX4_would : ByteArray := prog_6_method_45_code
def yX4_would : MethodName := ⟨RX4, "would", "(I)I"⟩
abbrev cX4_trial : ByteArray := prog_6_method_46_code
def yX4_trial : MethodName := ⟨RX4, "trial", "(III)I"⟩
abbrev cX4_advise : ByteArray := prog_6_method_47_code
def yX4_advise : MethodName := ⟨RX4, "advise", "(III)I"⟩
abbrev cX4_mean : ByteArray := prog_6_method_48_code
def yX4_mean : MethodName := ⟨RX4, "mean", "()D"⟩
abbrev cX4_digest : ByteArray := prog_6_method_49_code
def yX4_digest : MethodName := ⟨RX4, "digest", "()J"⟩
def RJx8e188 : String := "java/lang/Cloneable"
def TJx8e188 : u_T := fun k => match k with
  | _ => ("", "", "", false)
def tyJx8e188 : Nat → FieldType := fun k => match k with
  | _ => .int
theorem nmJx8e188 : ∀ a, a < 0 → ∀ b, b < 0 → a ≠ b → (TJx8e188 a).2.1 ≠ (TJx8e188 b).2.1 := by decide +kernel
theorem tyJx8e188_ok : ∀ k, k < 0 → parseFieldDescriptor (TJx8e188 k).2.2.1 = some (tyJx8e188 k) := by decide +kernel
def RJ9 : String := "java/lang/Math"
def TJ9 : u_T := fun k => match k with
  | _ => ("", "", "", false)
def tyJ9 : Nat → FieldType := fun k => match k with
  | _ => .int
theorem nmJ9 : ∀ a, a < 0 → ∀ b, b < 0 → a ≠ b → (TJ9 a).2.1 ≠ (TJ9 b).2.1 := by decide +kernel
theorem tyJ9_ok : ∀ k, k < 0 → parseFieldDescriptor (TJ9 k).2.2.1 = some (tyJ9 k) := by decide +kernel
abbrev cJ9_max_7cf53 : ByteArray := prog_12_method_65_code
def yJ9_max_7cf53 : MethodName := ⟨RJ9, "max", "(II)I"⟩
abbrev cJ9_min_7cf53 : ByteArray := prog_12_method_69_code
def yJ9_min_7cf53 : MethodName := ⟨RJ9, "min", "(II)I"⟩
def RJ0 : String := "java/lang/String"
def TJ0 : u_T := fun k => match k with
  | _ => ("", "", "", false)
def tyJ0 : Nat → FieldType := fun k => match k with
  | _ => .int
theorem nmJ0 : ∀ a, a < 0 → ∀ b, b < 0 → a ≠ b → (TJ0 a).2.1 ≠ (TJ0 b).2.1 := by decide +kernel
theorem tyJ0_ok : ∀ k, k < 0 → parseFieldDescriptor (TJ0 k).2.2.1 = some (tyJ0 k) := by decide +kernel
def RJ10 : String := "java/lang/System"
def TJ10 : u_T := fun k => match k with
  | _ => ("", "", "", false)
def tyJ10 : Nat → FieldType := fun k => match k with
  | _ => .int
theorem nmJ10 : ∀ a, a < 0 → ∀ b, b < 0 → a ≠ b → (TJ10 a).2.1 ≠ (TJ10 b).2.1 := by decide +kernel
theorem tyJ10_ok : ∀ k, k < 0 → parseFieldDescriptor (TJ10 k).2.2.1 = some (tyJ10 k) := by decide +kernel
def RL : String := "PinnedPantryLaw"
abbrev cL_fetch : ByteArray := method_3_code
def yL_fetch : MethodName := ⟨RL, "fetch", "(LPinnedPantry;I[J)I"⟩
abbrev cL_fetchAll : ByteArray := method_4_code
def yL_fetchAll : MethodName := ⟨RL, "fetchAll", "(LPinnedPantry;III[J)I"⟩
abbrev cL_pin : ByteArray := method_5_code
def yL_pin : MethodName := ⟨RL, "pin", "(LPinnedPantry;I[J)I"⟩
abbrev cL_unpin : ByteArray := method_6_code
def yL_unpin : MethodName := ⟨RL, "unpin", "(LPinnedPantry;I[J)I"⟩
abbrev cL_eat : ByteArray := method_7_code
def yL_eat : MethodName := ⟨RL, "eat", "(LPinnedPantry;I[J)I"⟩
abbrev cL_setPlaces : ByteArray := method_8_code
def yL_setPlaces : MethodName := ⟨RL, "setPlaces", "(LPinnedPantry;I[J)I"⟩
abbrev cL_setGoal : ByteArray := method_9_code
def yL_setGoal : MethodName := ⟨RL, "setGoal", "(LPinnedPantry;I[J)I"⟩
abbrev cL_jar : ByteArray := method_10_code
def yL_jar : MethodName := ⟨RL, "jar", "(LPinnedPantry;II[J)I"⟩
abbrev cL_shelf : ByteArray := method_11_code
def yL_shelf : MethodName := ⟨RL, "shelf", "(LPinnedPantry;II[J)I"⟩
abbrev cL_ghost : ByteArray := method_12_code
def yL_ghost : MethodName := ⟨RL, "ghost", "(LPinnedPantry;II[J)I"⟩
abbrev cL_count : ByteArray := method_13_code
def yL_count : MethodName := ⟨RL, "count", "(LPinnedPantry;I[J)I"⟩
abbrev cL_would : ByteArray := method_14_code
def yL_would : MethodName := ⟨RL, "would", "(LPinnedPantry;I[J)I"⟩
abbrev cL_trial : ByteArray := method_15_code
def yL_trial : MethodName := ⟨RL, "trial", "(LPinnedPantry;III[J)I"⟩
abbrev cL_advise : ByteArray := method_16_code
def yL_advise : MethodName := ⟨RL, "advise", "(LPinnedPantry;III[J)I"⟩
abbrev cL_law : ByteArray := code
def yL_law : MethodName := ⟨RL, "law", "([I)Z"⟩
def wsL_law0_r1 : List Cond := [Cond.classLink RL 8 RX3, Cond.instantiable RX3 2, Cond.initialized RX3, Cond.classLink RL 61 RX4, Cond.instantiable RX4 5, Cond.initialized RX4, Cond.arrayClass .long, Cond.methodLink RL 60 yX3_init, Cond.instanceMethod yX3_init, Cond.code yX3_init cX3_init 1 none, Cond.methodLink RX3 1 objectInit, Cond.instanceMethod objectInit, Cond.code objectInit ⟨#[0xb1]⟩ 1 none, Cond.classLink RX3 7 RX1, Cond.instantiable RX1 13, Cond.initialized RX1, Cond.fieldLink RX3 10 "PinnedPantry" "store" "LPinnedPantry$Store;", Cond.fieldLink RX3 16 "PinnedPantry" "rehearsal" "LPinnedPantry$Store;", Cond.methodLink RX3 9 yX1_init, Cond.instanceMethod yX1_init, Cond.code yX1_init cX1_init 1 none, Cond.methodLink RX1 3 objectInit, Cond.classLink RX1 9 RX0, Cond.instantiable RX0 2]
def wsL_law0_r2 : List Cond := [Cond.initialized RX0, Cond.fieldLink RX1 12 "PinnedPantry$Store" "newRow" "LPinnedPantry$Row;", Cond.fieldLink RX1 18 "PinnedPantry$Store" "triedRow" "LPinnedPantry$Row;", Cond.fieldLink RX1 21 "PinnedPantry$Store" "newList" "LPinnedPantry$Row;", Cond.fieldLink RX1 24 "PinnedPantry$Store" "triedList" "LPinnedPantry$Row;", Cond.classLink RX1 27 RX2, Cond.instantiable RX2 1, Cond.initialized RX2, Cond.fieldLink RX1 30 "PinnedPantry$Store" "touches" "LPinnedPantry$Table;", Cond.fieldLink RX1 34 "PinnedPantry$Store" "pins" "LPinnedPantry$Table;", Cond.fieldLink RX1 37 "PinnedPantry$Store" "fetches" "LPinnedPantry$Table;", Cond.fieldLink RX1 40 "PinnedPantry$Store" "places" "I", Cond.methodLink RX1 11 yX0_init, Cond.instanceMethod yX0_init, Cond.code yX0_init cX0_init 1 none, Cond.methodLink RX0 3 objectInit, Cond.arrayClass .int, Cond.fieldLink RX0 9 "PinnedPantry$Row" "kinds" "[I", Cond.fieldLink RX0 15 "PinnedPantry$Row" "length" "I", Cond.methodLink RX1 29 yX2_init, Cond.instanceMethod yX2_init, Cond.code yX2_init cX2_init 1 none, Cond.methodLink RX2 3 objectInit, Cond.fieldLink RX2 9 "PinnedPantry$Table" "numbers" "[I"]
def wsL_law0_r3 : List Cond := [Cond.methodLink RL 63 yX4_init, Cond.instanceMethod yX4_init, Cond.code yX4_init cX4_init 2 none, Cond.methodLink RX4 1 objectInit, Cond.fieldLink RX4 9 "PinnedPantryModel" "jars" "[I", Cond.fieldLink RX4 13 "PinnedPantryModel" "shelves" "[I", Cond.fieldLink RX4 16 "PinnedPantryModel" "lists" "[I", Cond.fieldLink RX4 19 "PinnedPantryModel" "numbers" "[I", Cond.methodLink RL 64 yL_fetch, Cond.static yL_fetch, Cond.initialized RL, Cond.codeWith yL_fetch cL_fetch 4 (some .int) [(0, 9, 12, 13), (0, 9, 15, 15)], Cond.classLink RL 13 "java/lang/IndexOutOfBoundsException", Cond.classLink RL 15 "java/lang/IllegalStateException", Cond.methodLink RL 7 yX3_fetch, Cond.instanceMethod yX3_fetch, Cond.selects RX3 yX3_fetch yX3_fetch, Cond.code yX3_fetch cX3_fetch 3 (some .int), Cond.classLink RX3 27 "java/lang/IllegalStateException", Cond.initialized "java/lang/IllegalStateException", Cond.methodLink RX3 19 yX3_requireKind, Cond.static yX3_requireKind, Cond.code yX3_requireKind cX3_requireKind 1 none, Cond.classLink RX3 90 "java/lang/IndexOutOfBoundsException"]
def wsL_law0_r4 : List Cond := [Cond.initialized "java/lang/IndexOutOfBoundsException", Cond.methodLink RX3 23 yX1_bring, Cond.instanceMethod yX1_bring, Cond.selects RX1 yX1_bring yX1_bring, Cond.code yX1_bring cX1_bring 3 (some .int), Cond.fieldLink RX1 54 "PinnedPantry$Store" "hits" "I", Cond.fieldLink RX1 57 "PinnedPantry$Store" "misses" "I", Cond.methodLink RX1 94 yX1_forecast, Cond.instanceMethod yX1_forecast, Cond.selects RX1 yX1_forecast yX1_forecast, Cond.code yX1_forecast cX1_forecast 2 (some .int), Cond.methodLink RX1 84 yX1_hasJar, Cond.instanceMethod yX1_hasJar, Cond.selects RX1 yX1_hasJar yX1_hasJar, Cond.code yX1_hasJar cX1_hasJar 2 (some .boolean), Cond.methodLink RX1 66 yX0_has, Cond.instanceMethod yX0_has, Cond.selects RX0 yX0_has yX0_has, Cond.code yX0_has cX0_has 2 (some .boolean), Cond.methodLink RX0 19 yX0_placeOf, Cond.instanceMethod yX0_placeOf, Cond.selects RX0 yX0_placeOf yX0_placeOf, Cond.code yX0_placeOf cX0_placeOf 3 (some .int), Cond.methodLink RX1 87 yX1_jars]
def wsL_law0_r5 : List Cond := [Cond.instanceMethod yX1_jars, Cond.selects RX1 yX1_jars yX1_jars, Cond.code yX1_jars cX1_jars 1 (some .int), Cond.methodLink RX1 91 yX1_pinnedJars, Cond.instanceMethod yX1_pinnedJars, Cond.selects RX1 yX1_pinnedJars yX1_pinnedJars, Cond.code yX1_pinnedJars cX1_pinnedJars 1 (some .int), Cond.methodLink RX1 73 yX1_pinnedOn, Cond.instanceMethod yX1_pinnedOn, Cond.selects RX1 yX1_pinnedOn yX1_pinnedOn, Cond.code yX1_pinnedOn cX1_pinnedOn 4 (some .int), Cond.methodLink RX1 77 yX0_at, Cond.instanceMethod yX0_at, Cond.selects RX0 yX0_at yX0_at, Cond.code yX0_at cX0_at 2 (some .int), Cond.methodLink RX1 81 yX2_of, Cond.instanceMethod yX2_of, Cond.selects RX2 yX2_of yX2_of, Cond.code yX2_of cX2_of 2 (some .int), Cond.methodLink RX1 97 yX2_put, Cond.instanceMethod yX2_put, Cond.selects RX2 yX2_put yX2_put, Cond.code yX2_put cX2_put 3 none, Cond.methodLink RX1 101 yX1_recall]
def wsL_law0_r6 : List Cond := [Cond.instanceMethod yX1_recall, Cond.selects RX1 yX1_recall yX1_recall, Cond.code yX1_recall cX1_recall 3 none, Cond.fieldLink RX1 51 "PinnedPantry$Store" "goal" "I", Cond.methodLink RX1 118 Lib.Math.min.name, Cond.static Lib.Math.min.name, Cond.initialized "java/lang/Math", Cond.code Lib.Math.min.name Lib.Math.min.code 2 (some .int), Cond.fieldLink RX1 60 "PinnedPantry$Store" "rememberedMisses" "I", Cond.methodLink RX1 131 Lib.Math.max.name, Cond.static Lib.Math.max.name, Cond.code Lib.Math.max.name Lib.Math.max.code 2 (some .int), Cond.methodLink RX1 114 yX1_turn, Cond.static yX1_turn, Cond.code yX1_turn cX1_turn 3 (some .int), Cond.methodLink RX1 124 yX0_placeOf, Cond.methodLink RX1 127 yX0_takeOut, Cond.instanceMethod yX0_takeOut, Cond.selects RX0 yX0_takeOut yX0_takeOut, Cond.code yX0_takeOut cX0_takeOut 3 none, Cond.methodLink RX1 104 yX1_sweep, Cond.instanceMethod yX1_sweep, Cond.selects RX1 yX1_sweep yX1_sweep, Cond.code yX1_sweep cX1_sweep 5 (some .int)]
def wsL_law0_r7 : List Cond := [Cond.constant RX1 137 (1000000), Cond.fieldLink RX1 63 "PinnedPantry$Store" "looks" "I", Cond.methodLink RX1 138 yX1_givingShelf, Cond.instanceMethod yX1_givingShelf, Cond.selects RX1 yX1_givingShelf yX1_givingShelf, Cond.code yX1_givingShelf cX1_givingShelf 4 (some .int), Cond.methodLink RX1 141 yX1_rowOf, Cond.instanceMethod yX1_rowOf, Cond.selects RX1 yX1_rowOf yX1_rowOf, Cond.code yX1_rowOf cX1_rowOf 2 (some (.object "PinnedPantry$Row")), Cond.methodLink RX1 134 yX0_append, Cond.instanceMethod yX0_append, Cond.selects RX0 yX0_append yX0_append, Cond.code yX0_append cX0_append 2 none, Cond.methodLink RX1 145 yX1_listOf, Cond.instanceMethod yX1_listOf, Cond.selects RX1 yX1_listOf yX1_listOf, Cond.code yX1_listOf cX1_listOf 2 (some (.object "PinnedPantry$Row")), Cond.methodLink RX1 148 yX0_forgetEldest, Cond.instanceMethod yX0_forgetEldest, Cond.selects RX0 yX0_forgetEldest yX0_forgetEldest, Cond.code yX0_forgetEldest cX0_forgetEldest 3 none, Cond.methodLink RX0 23 yX0_takeOut, Cond.methodLink RX1 107 yX1_placeNewJar]
def wsL_law0_r8 : List Cond := [Cond.instanceMethod yX1_placeNewJar, Cond.selects RX1 yX1_placeNewJar yX1_placeNewJar, Cond.code yX1_placeNewJar cX1_placeNewJar 3 none, Cond.methodLink RL 69 yX4_fetch, Cond.instanceMethod yX4_fetch, Cond.selects RX4 yX4_fetch yX4_fetch, Cond.code yX4_fetch cX4_fetch 2 (some .int), Cond.fieldLink RX4 22 "PinnedPantryModel" "thrown" "I", Cond.methodLink RX4 101 yX4_isKind, Cond.static yX4_isKind, Cond.code yX4_isKind cX4_isKind 1 (some .boolean), Cond.methodLink RX4 26 yX4_isIn, Cond.static yX4_isIn, Cond.code yX4_isIn cX4_isIn 3 (some .boolean), Cond.methodLink RX4 104 yX4_fail, Cond.instanceMethod yX4_fail, Cond.selects RX4 yX4_fail yX4_fail, Cond.code yX4_fail cX4_fail 2 (some .int), Cond.methodLink RX4 107 yX4_canFetch, Cond.instanceMethod yX4_canFetch, Cond.selects RX4 yX4_canFetch yX4_canFetch, Cond.code yX4_canFetch cX4_canFetch 2 (some .boolean), Cond.methodLink RX4 61 yX4_isThere, Cond.instanceMethod yX4_isThere]
def wsL_law0_r9 : List Cond := [Cond.selects RX4 yX4_isThere yX4_isThere, Cond.code yX4_isThere cX4_isThere 2 (some .boolean), Cond.methodLink RX4 30 yX4_ja, Cond.instanceMethod yX4_ja, Cond.selects RX4 yX4_ja yX4_ja, Cond.code yX4_ja cX4_ja 3 (some .int), Cond.methodLink RX4 82 yX4_all, Cond.instanceMethod yX4_all, Cond.selects RX4 yX4_all yX4_all, Cond.code yX4_all cX4_all 1 (some .int), Cond.methodLink RX4 34 yX4_many, Cond.instanceMethod yX4_many, Cond.selects RX4 yX4_many yX4_many, Cond.code yX4_many cX4_many 2 (some .int), Cond.methodLink RX4 86 yX4_pinned, Cond.instanceMethod yX4_pinned, Cond.selects RX4 yX4_pinned yX4_pinned, Cond.code yX4_pinned cX4_pinned 3 (some .int), Cond.methodLink RX4 110 yX4_fetched, Cond.instanceMethod yX4_fetched, Cond.selects RX4 yX4_fetched yX4_fetched, Cond.code yX4_fetched cX4_fetched 4 (some .int), Cond.methodLink RX4 68 Lib.Math.max.name, Cond.methodLink RX4 95 Lib.Math.min.name]
def wsL_law0_r10 : List Cond := [Cond.methodLink RX4 38 arraycopyName, Cond.native arraycopyName, Cond.static arraycopyName, Cond.initialized "java/lang/System", Cond.methodLink RX4 92 yX4_listOf, Cond.instanceMethod yX4_listOf, Cond.selects RX4 yX4_listOf yX4_listOf, Cond.code yX4_listOf cX4_listOf 2 (some .int), Cond.methodLink RX4 89 yX4_listPlace, Cond.instanceMethod yX4_listPlace, Cond.selects RX4 yX4_listPlace yX4_listPlace, Cond.code yX4_listPlace cX4_listPlace 4 (some .int), Cond.methodLink RX4 44 yX4_listed, Cond.instanceMethod yX4_listed, Cond.selects RX4 yX4_listed yX4_listed, Cond.code yX4_listed cX4_listed 2 (some .int), Cond.methodLink RX4 55 yX4_listedAt, Cond.instanceMethod yX4_listedAt, Cond.selects RX4 yX4_listedAt yX4_listedAt, Cond.code yX4_listedAt cX4_listedAt 3 (some .int), Cond.methodLink RX4 47 yX4_takeOff, Cond.instanceMethod yX4_takeOff, Cond.selects RX4 yX4_takeOff yX4_takeOff, Cond.code yX4_takeOff cX4_takeOff 3 none]
def wsL_law0_r11 : List Cond := [Cond.methodLink RX4 98 yX4_sweep, Cond.instanceMethod yX4_sweep, Cond.selects RX4 yX4_sweep yX4_sweep, Cond.code yX4_sweep cX4_sweep 4 (some .int), Cond.methodLink RX4 65 yX4_canGive, Cond.instanceMethod yX4_canGive, Cond.selects RX4 yX4_canGive yX4_canGive, Cond.code yX4_canGive cX4_canGive 3 (some .boolean), Cond.methodLink RX4 58 yX4_kindAt, Cond.instanceMethod yX4_kindAt, Cond.selects RX4 yX4_kindAt yX4_kindAt, Cond.code yX4_kindAt cX4_kindAt 3 (some .int), Cond.methodLink RX4 73 yX4_takeOut, Cond.instanceMethod yX4_takeOut, Cond.selects RX4 yX4_takeOut yX4_takeOut, Cond.code yX4_takeOut cX4_takeOut 3 none, Cond.methodLink RX4 76 yX4_putLast, Cond.instanceMethod yX4_putLast, Cond.selects RX4 yX4_putLast yX4_putLast, Cond.code yX4_putLast cX4_putLast 3 none, Cond.methodLink RX4 79 yX4_remember, Cond.instanceMethod yX4_remember, Cond.selects RX4 yX4_remember yX4_remember, Cond.code yX4_remember cX4_remember 3 none]
def wsL_law0_r12 : List Cond := [Cond.methodLink RX4 51 yX4_forget, Cond.instanceMethod yX4_forget, Cond.selects RX4 yX4_forget yX4_forget, Cond.code yX4_forget cX4_forget 2 none, Cond.methodLink RL 70 yX4_thrown, Cond.instanceMethod yX4_thrown, Cond.selects RX4 yX4_thrown yX4_thrown, Cond.code yX4_thrown cX4_thrown 1 (some .int), Cond.methodLink RL 74 yL_fetchAll, Cond.static yL_fetchAll, Cond.codeWith yL_fetchAll cL_fetchAll 6 (some .int) [(0, 12, 15, 13), (0, 12, 19, 21)], Cond.classLink RL 21 "java/lang/IllegalArgumentException", Cond.methodLink RL 17 yX3_fetchAll, Cond.instanceMethod yX3_fetchAll, Cond.selects RX3 yX3_fetchAll yX3_fetchAll, Cond.code yX3_fetchAll cX3_fetchAll 4 (some .int), Cond.methodLink RX3 34 yX3_requireSeries, Cond.static yX3_requireSeries, Cond.code yX3_requireSeries cX3_requireSeries 3 none, Cond.classLink RX3 67 "java/lang/IllegalArgumentException", Cond.initialized "java/lang/IllegalArgumentException", Cond.methodLink RX3 38 yX1_bringSeries, Cond.instanceMethod yX1_bringSeries, Cond.selects RX1 yX1_bringSeries yX1_bringSeries]
def wsL_law0_r13 : List Cond := [Cond.code yX1_bringSeries cX1_bringSeries 6 (some .int), Cond.methodLink RX1 111 yX1_bring, Cond.methodLink RL 77 yX4_fetchAll, Cond.instanceMethod yX4_fetchAll, Cond.selects RX4 yX4_fetchAll yX4_fetchAll, Cond.code yX4_fetchAll cX4_fetchAll 4 (some .int), Cond.methodLink RX4 113 yX4_wrong, Cond.instanceMethod yX4_wrong, Cond.selects RX4 yX4_wrong yX4_wrong, Cond.code yX4_wrong cX4_wrong 4 (some .int), Cond.methodLink RX4 117 yX4_hits, Cond.instanceMethod yX4_hits, Cond.selects RX4 yX4_hits yX4_hits, Cond.code yX4_hits cX4_hits 6 (some .int), Cond.methodLink RL 78 yL_pin, Cond.static yL_pin, Cond.codeWith yL_pin cL_pin 4 (some .int) [(0, 9, 12, 13), (0, 9, 15, 15)], Cond.methodLink RL 23 yX3_pin, Cond.instanceMethod yX3_pin, Cond.selects RX3 yX3_pin yX3_pin, Cond.code yX3_pin cX3_pin 2 (some .int), Cond.methodLink RX3 42 yX3_requireJar, Cond.instanceMethod yX3_requireJar, Cond.selects RX3 yX3_requireJar yX3_requireJar]
def wsL_law0_r14 : List Cond := [Cond.code yX3_requireJar cX3_requireJar 2 none, Cond.methodLink RX3 165 yX1_hasJar, Cond.methodLink RX3 49 yX2_of, Cond.methodLink RX3 56 yX1_changePins, Cond.instanceMethod yX1_changePins, Cond.selects RX1 yX1_changePins yX1_changePins, Cond.code yX1_changePins cX1_changePins 3 (some .int), Cond.methodLink RL 80 yX4_pin, Cond.instanceMethod yX4_pin, Cond.selects RX4 yX4_pin yX4_pin, Cond.code yX4_pin cX4_pin 2 (some .int), Cond.methodLink RL 81 yL_unpin, Cond.static yL_unpin, Cond.codeWith yL_unpin cL_unpin 4 (some .int) [(0, 9, 12, 13), (0, 9, 15, 15)], Cond.methodLink RL 26 yX3_unpin, Cond.instanceMethod yX3_unpin, Cond.selects RX3 yX3_unpin yX3_unpin, Cond.code yX3_unpin cX3_unpin 2 (some .int), Cond.methodLink RL 83 yX4_unpin, Cond.instanceMethod yX4_unpin, Cond.selects RX4 yX4_unpin yX4_unpin, Cond.code yX4_unpin cX4_unpin 2 (some .int), Cond.methodLink RL 84 yL_eat, Cond.static yL_eat]
def wsL_law0_r15 : List Cond := [Cond.codeWith yL_eat cL_eat 4 (some .int) [(0, 9, 12, 13), (0, 9, 15, 15)], Cond.methodLink RL 29 yX3_eat, Cond.instanceMethod yX3_eat, Cond.selects RX3 yX3_eat yX3_eat, Cond.code yX3_eat cX3_eat 2 (some .int), Cond.methodLink RX3 64 yX1_remove, Cond.instanceMethod yX1_remove, Cond.selects RX1 yX1_remove yX1_remove, Cond.code yX1_remove cX1_remove 2 (some .int), Cond.methodLink RL 86 yX4_eat, Cond.instanceMethod yX4_eat, Cond.selects RX4 yX4_eat yX4_eat, Cond.code yX4_eat cX4_eat 2 (some .int), Cond.methodLink RX4 120 yX4_placeOf, Cond.instanceMethod yX4_placeOf, Cond.selects RX4 yX4_placeOf yX4_placeOf, Cond.code yX4_placeOf cX4_placeOf 3 (some .int), Cond.methodLink RL 87 yL_setPlaces, Cond.static yL_setPlaces, Cond.codeWith yL_setPlaces cL_setPlaces 4 (some .int) [(0, 9, 12, 21), (0, 9, 15, 15)], Cond.methodLink RL 32 yX3_setPlaces, Cond.instanceMethod yX3_setPlaces, Cond.selects RX3 yX3_setPlaces yX3_setPlaces, Cond.code yX3_setPlaces cX3_setPlaces 3 (some .int)]
def wsL_law0_r16 : List Cond := [Cond.methodLink RX3 72 yX1_pinnedJars, Cond.methodLink RX3 82 yX1_resize, Cond.instanceMethod yX1_resize, Cond.selects RX1 yX1_resize yX1_resize, Cond.code yX1_resize cX1_resize 3 none, Cond.methodLink RL 89 yX4_setPlaces, Cond.instanceMethod yX4_setPlaces, Cond.selects RX4 yX4_setPlaces yX4_setPlaces, Cond.code yX4_setPlaces cX4_setPlaces 3 (some .int), Cond.methodLink RX4 123 yX4_place, Cond.instanceMethod yX4_place, Cond.selects RX4 yX4_place yX4_place, Cond.code yX4_place cX4_place 2 none, Cond.methodLink RL 90 yL_setGoal, Cond.static yL_setGoal, Cond.codeWith yL_setGoal cL_setGoal 4 (some .int) [(0, 9, 12, 21)], Cond.methodLink RL 35 yX3_setGoal, Cond.instanceMethod yX3_setGoal, Cond.selects RX3 yX3_setGoal yX3_setGoal, Cond.code yX3_setGoal cX3_setGoal 3 (some .int), Cond.methodLink RL 92 yX4_setGoal, Cond.instanceMethod yX4_setGoal, Cond.selects RX4 yX4_setGoal yX4_setGoal, Cond.code yX4_setGoal cX4_setGoal 3 (some .int)]
def wsL_law0_r17 : List Cond := [Cond.methodLink RL 93 yL_jar, Cond.static yL_jar, Cond.codeWith yL_jar cL_jar 5 (some .int) [(0, 10, 13, 13)], Cond.methodLink RL 38 yX3_jar, Cond.instanceMethod yX3_jar, Cond.selects RX3 yX3_jar yX3_jar, Cond.code yX3_jar cX3_jar 3 (some .int), Cond.methodLink RX3 95 yX1_detail, Cond.instanceMethod yX1_detail, Cond.selects RX1 yX1_detail yX1_detail, Cond.code yX1_detail cX1_detail 5 (some .int), Cond.methodLink RL 96 yX4_jar, Cond.instanceMethod yX4_jar, Cond.selects RX4 yX4_jar yX4_jar, Cond.code yX4_jar cX4_jar 3 (some .int), Cond.methodLink RL 97 yL_shelf, Cond.static yL_shelf, Cond.codeWith yL_shelf cL_shelf 5 (some .int) [(0, 10, 13, 13)], Cond.methodLink RL 42 yX3_shelf, Cond.instanceMethod yX3_shelf, Cond.selects RX3 yX3_shelf yX3_shelf, Cond.code yX3_shelf cX3_shelf 3 (some .int), Cond.methodLink RX3 98 yX3_requireShelf, Cond.static yX3_requireShelf]
def wsL_law0_r18 : List Cond := [Cond.code yX3_requireShelf cX3_requireShelf 1 none, Cond.methodLink RX3 101 yX1_rowOf, Cond.methodLink RX3 105 yX3_requireAt, Cond.static yX3_requireAt, Cond.code yX3_requireAt cX3_requireAt 3 (some .int), Cond.methodLink RX3 160 yX0_at, Cond.methodLink RL 99 yX4_shelf, Cond.instanceMethod yX4_shelf, Cond.selects RX4 yX4_shelf yX4_shelf, Cond.code yX4_shelf cX4_shelf 3 (some .int), Cond.methodLink RL 100 yL_ghost, Cond.static yL_ghost, Cond.codeWith yL_ghost cL_ghost 5 (some .int) [(0, 10, 13, 13)], Cond.methodLink RL 45 yX3_ghost, Cond.instanceMethod yX3_ghost, Cond.selects RX3 yX3_ghost yX3_ghost, Cond.code yX3_ghost cX3_ghost 3 (some .int), Cond.methodLink RX3 109 yX1_listOf, Cond.methodLink RL 102 yX4_ghost, Cond.instanceMethod yX4_ghost, Cond.selects RX4 yX4_ghost yX4_ghost, Cond.code yX4_ghost cX4_ghost 3 (some .int), Cond.methodLink RL 103 yL_count, Cond.static yL_count]
def wsL_law0_r19 : List Cond := [Cond.codeWith yL_count cL_count 4 (some .int) [(0, 9, 12, 13)], Cond.methodLink RL 48 yX3_count, Cond.instanceMethod yX3_count, Cond.selects RX3 yX3_count yX3_count, Cond.code yX3_count cX3_count 2 (some .int), Cond.methodLink RX3 114 yX1_tally, Cond.instanceMethod yX1_tally, Cond.selects RX1 yX1_tally yX1_tally, Cond.code yX1_tally cX1_tally 2 (some .int), Cond.methodLink RL 105 yX4_count, Cond.instanceMethod yX4_count, Cond.selects RX4 yX4_count yX4_count, Cond.code yX4_count cX4_count 2 (some .int), Cond.methodLink RX4 126 yX4_counted, Cond.instanceMethod yX4_counted, Cond.selects RX4 yX4_counted yX4_counted, Cond.code yX4_counted cX4_counted 2 (some .int), Cond.methodLink RL 106 yX3_next, Cond.instanceMethod yX3_next, Cond.selects RX3 yX3_next yX3_next, Cond.code yX3_next cX3_next 1 (some .int), Cond.methodLink RX3 117 yX1_become, Cond.instanceMethod yX1_become, Cond.selects RX1 yX1_become yX1_become]
def wsL_law0_r20 : List Cond := [Cond.code yX1_become cX1_become 2 none, Cond.methodLink RX1 44 yX0_become, Cond.instanceMethod yX0_become, Cond.selects RX0 yX0_become yX0_become, Cond.code yX0_become cX0_become 3 none, Cond.methodLink RX1 48 yX2_become, Cond.instanceMethod yX2_become, Cond.selects RX2 yX2_become yX2_become, Cond.code yX2_become cX2_become 3 none, Cond.methodLink RX3 121 yX1_sweep, Cond.methodLink RL 109 yX4_next, Cond.instanceMethod yX4_next, Cond.selects RX4 yX4_next yX4_next, Cond.code yX4_next cX4_next 3 (some .int), Cond.methodLink RX4 134 yX4_kept, Cond.instanceMethod yX4_kept, Cond.selects RX4 yX4_kept yX4_kept, Cond.code yX4_kept cX4_kept 1 (some (.array (.array .int))), Cond.classLink RX4 129 "[I", Cond.methodLink RX4 130 ⟨"[I", "clone", "()Ljava/lang/Object;"⟩, Cond.sameMethod "[I" "java/lang/Object" "clone" "()Ljava/lang/Object;", Cond.native ⟨"java/lang/Object", "clone", "()Ljava/lang/Object;"⟩, Cond.instanceMethod ⟨"java/lang/Object", "clone", "()Ljava/lang/Object;"⟩, Cond.selects "[I" ⟨"[I", "clone", "()Ljava/lang/Object;"⟩ ⟨"java/lang/Object", "clone", "()Ljava/lang/Object;"⟩]
def wsL_law0_r21 : List Cond := [Cond.methodLink RX4 138 yX4_bringBack, Cond.instanceMethod yX4_bringBack, Cond.selects RX4 yX4_bringBack yX4_bringBack, Cond.code yX4_bringBack cX4_bringBack 2 none, Cond.methodLink RL 110 yL_would, Cond.static yL_would, Cond.codeWith yL_would cL_would 4 (some .int) [(0, 9, 12, 13)], Cond.methodLink RL 51 yX3_would, Cond.instanceMethod yX3_would, Cond.selects RX3 yX3_would yX3_would, Cond.code yX3_would cX3_would 2 (some .int), Cond.methodLink RX3 124 yX1_forecast, Cond.methodLink RL 112 yX4_would, Cond.instanceMethod yX4_would, Cond.selects RX4 yX4_would yX4_would, Cond.code yX4_would cX4_would 2 (some .int), Cond.methodLink RX4 142 yX4_told, Cond.instanceMethod yX4_told, Cond.selects RX4 yX4_told yX4_told, Cond.code yX4_told cX4_told 2 (some .int), Cond.methodLink RL 113 yL_trial, Cond.static yL_trial, Cond.codeWith yL_trial cL_trial 6 (some .int) [(0, 12, 15, 13), (0, 12, 19, 21)], Cond.methodLink RL 54 yX3_trial]
def wsL_law0_r22 : List Cond := [Cond.instanceMethod yX3_trial, Cond.selects RX3 yX3_trial yX3_trial, Cond.code yX3_trial cX3_trial 4 (some .int), Cond.methodLink RL 115 yX4_trial, Cond.instanceMethod yX4_trial, Cond.selects RX4 yX4_trial yX4_trial, Cond.code yX4_trial cX4_trial 6 (some .int), Cond.methodLink RL 116 yL_advise, Cond.static yL_advise, Cond.codeWith yL_advise cL_advise 6 (some .int) [(0, 12, 15, 13), (0, 12, 19, 21)], Cond.methodLink RL 57 yX3_advise, Cond.instanceMethod yX3_advise, Cond.selects RX3 yX3_advise yX3_advise, Cond.code yX3_advise cX3_advise 8 (some .int), Cond.methodLink RX3 127 Lib.Math.max.name, Cond.methodLink RL 118 yX4_advise, Cond.instanceMethod yX4_advise, Cond.selects RX4 yX4_advise yX4_advise, Cond.code yX4_advise cX4_advise 9 (some .int), Cond.methodLink RL 119 yX3_mean, Cond.instanceMethod yX3_mean, Cond.selects RX3 yX3_mean yX3_mean, Cond.code yX3_mean cX3_mean 2 (some .double), Cond.methodLink RX3 132 yX1_jars]
def wsL_law0_r23 : List Cond := [Cond.methodLink RX3 135 yX1_fetchesOfAll, Cond.instanceMethod yX1_fetchesOfAll, Cond.selects RX1 yX1_fetchesOfAll yX1_fetchesOfAll, Cond.code yX1_fetchesOfAll cX1_fetchesOfAll 3 (some .int), Cond.methodLink RL 123 yX4_mean, Cond.instanceMethod yX4_mean, Cond.selects RX4 yX4_mean yX4_mean, Cond.code yX4_mean cX4_mean 3 (some .double), Cond.methodLink RL 124 yX3_digest, Cond.instanceMethod yX3_digest, Cond.selects RX3 yX3_digest yX3_digest, Cond.code yX3_digest cX3_digest 4 (some .long), Cond.constantLong RX3 138 (1541), Cond.constantLong RX3 140 (31), Cond.methodLink RX3 142 yX1_digestJars, Cond.instanceMethod yX1_digestJars, Cond.selects RX1 yX1_digestJars yX1_digestJars, Cond.code yX1_digestJars cX1_digestJars 8 (some .long), Cond.constantLong RX1 151 (31), Cond.methodLink RX3 146 yX0_digestKinds, Cond.instanceMethod yX0_digestKinds, Cond.selects RX0 yX0_digestKinds yX0_digestKinds, Cond.code yX0_digestKinds cX0_digestKinds 6 (some .long), Cond.constantLong RX0 27 (31)]
def wsL_law0_r24 : List Cond := [Cond.methodLink RX0 29 yX0_at, Cond.methodLink RL 128 yX4_digest, Cond.instanceMethod yX4_digest, Cond.selects RX4 yX4_digest yX4_digest, Cond.code yX4_digest cX4_digest 7 (some .long), Cond.constantLong RX4 145 (1541), Cond.constantLong RX4 147 (31)]
def wsL_law0 : List Cond := (wsL_law0_r1 ++ (wsL_law0_r2 ++ (wsL_law0_r3 ++ (wsL_law0_r4 ++ (wsL_law0_r5 ++ (wsL_law0_r6 ++ (wsL_law0_r7 ++ (wsL_law0_r8 ++ (wsL_law0_r9 ++ (wsL_law0_r10 ++ (wsL_law0_r11 ++ (wsL_law0_r12 ++ (wsL_law0_r13 ++ (wsL_law0_r14 ++ (wsL_law0_r15 ++ (wsL_law0_r16 ++ (wsL_law0_r17 ++ (wsL_law0_r18 ++ (wsL_law0_r19 ++ (wsL_law0_r20 ++ (wsL_law0_r21 ++ (wsL_law0_r22 ++ (wsL_law0_r23 ++ wsL_law0_r24))))))))))))))))))))))) ++ wsX30 ++ wsX40 ++ wsX10 ++ wsX00 ++ wsX20 ++ ([] : List Cond)
def wsL_law : List Cond := wsL_law0 ++ (vx_atS RX3 31 "java/lang/IllegalStateException" ["java/lang/RuntimeException", "java/lang/Exception"]).filter goodWord ++ (vx_atS RX3 94 "java/lang/IndexOutOfBoundsException" ["java/lang/RuntimeException", "java/lang/Exception"]).filter goodWord ++ (vx_atS RX3 71 "java/lang/IllegalArgumentException" ["java/lang/RuntimeException", "java/lang/Exception"]).filter goodWord
theorem inlX0 : ∀ w ∈ wsX00, w ∈ wsL_law := fun _ h => List.mem_append_left _ (List.mem_append_left _ (List.mem_append_left _ (List.mem_append_left _ (List.mem_append_left _ (List.mem_append_right _ h)))))
theorem inlX1 : ∀ w ∈ wsX10, w ∈ wsL_law := fun _ h => List.mem_append_left _ (List.mem_append_left _ (List.mem_append_left _ (List.mem_append_left _ (List.mem_append_left _ (List.mem_append_left _ (List.mem_append_right _ h))))))
theorem inlX2 : ∀ w ∈ wsX20, w ∈ wsL_law := fun _ h => List.mem_append_left _ (List.mem_append_left _ (List.mem_append_left _ (List.mem_append_left _ (List.mem_append_right _ h))))
theorem inlX3 : ∀ w ∈ wsX30, w ∈ wsL_law := fun _ h => List.mem_append_left _ (List.mem_append_left _ (List.mem_append_left _ (List.mem_append_left _ (List.mem_append_left _ (List.mem_append_left _ (List.mem_append_left _ (List.mem_append_left _ (List.mem_append_right _ h))))))))
theorem inlX4 : ∀ w ∈ wsX40, w ∈ wsL_law := fun _ h => List.mem_append_left _ (List.mem_append_left _ (List.mem_append_left _ (List.mem_append_left _ (List.mem_append_left _ (List.mem_append_left _ (List.mem_append_left _ (List.mem_append_right _ h)))))))
abbrev vwCl : List vw_C := [(RX0, TX0, 2), (RX1, TX1, 13), (RX2, TX2, 1), (RX3, TX3, 2), (RX4, TX4, 5)]
end
section
/-! THE JUDGEMENT: a method's walk over a world in lists, heap and locals hidden (KJ); its constants in one tuple (KX). -/
abbrev KX : Type := Program × Env × State × MethodId × Array Value × List Frame × Method × Code × (State → Prop) × (Nat → Prop)
abbrev kp (G : KX) : Program := G.1
abbrev ke (G : KX) : Env := G.2.1
abbrev ks (G : KX) : State := G.2.2.1
abbrev km (G : KX) : MethodId := G.2.2.2.1
abbrev ka (G : KX) : Array Value := G.2.2.2.2.1
abbrev kb (G : KX) : List Frame := G.2.2.2.2.2.1
abbrev kme (G : KX) : Method := G.2.2.2.2.2.2.1
abbrev kc (G : KX) : Code := G.2.2.2.2.2.2.2.1
abbrev kQ (G : KX) : State → Prop := G.2.2.2.2.2.2.2.2.1
abbrev kA (G : KX) : Nat → Prop := G.2.2.2.2.2.2.2.2.2
/-- the arrays' classes stand in D behind the objects' -/
abbrev kty (D : va_G) : List (ClassId × FieldType) := [(D.1 5, .int), (D.1 6, .long), (D.1 7, .array .int)]
/-- what the tables say, beside the words -/
def KT (D : va_G) (U : State) : Prop := va_K D vwCl (kty D) U ∧ va_Nw (.fieldLinkNest RX1 70 RX0 "length" "I" RX3) U ∧ va_Nw (.fieldLinkNest RX3 45 RX1 "pins" "LPinnedPantry$Table;" RX3) U ∧ va_Nw (.fieldLinkNest RX3 78 RX1 "places" "I" RX3) U ∧ va_Nw (.fieldLinkNest RX3 87 RX1 "goal" "I" RX3) U ∧ va_Nw (.castable "[I" "java/lang/Cloneable") U
theorem KT.warm {D : va_G} {s U : State} (hW : s.WarmedH U.vm) (h : KT D s) : KT D U := ⟨va_K.moved hW.alike h.1, va_Nw.warmF hW h.2.1, va_Nw.warmF hW h.2.2.1, va_Nw.warmF hW h.2.2.2.1, va_Nw.warmF hW h.2.2.2.2.1, va_Nw.warmC hW h.2.2.2.2.2⟩
theorem KT.same {D : va_G} {u U : State} (h : u.vm = U.vm) (hZ : KT D u) : KT D U := ⟨va_K.moved (by rw [h]; exact Vm.Alike.refl U.vm) hZ.1, va_Nw.same rfl h hZ.2.1, va_Nw.same rfl h hZ.2.2.1, va_Nw.same rfl h hZ.2.2.2.1, va_Nw.same rfl h hZ.2.2.2.2.1, va_Nw.same rfl h hZ.2.2.2.2.2⟩
def KJ (l : Launch) (G : KX) (D : va_G) (R : Room) (nL ce sl : Nat) (ws : va_W) (lv : List (Nat × Value)) (pc : Nat) (st : List Value) : Prop :=
  ∀ (H : Heap) (locs : List Loc) (ls : Array Slot), va_P D vwCl ws H → va_D (kA G) ws → va_S (kA G) (ks G).heap H locs → lv_has ls nL lv → W (kp G) l (ke G) R (ks G) (km G) (ka G) (kb G) (kme G) (kc G) H locs ce sl (kQ G) (F0 (km G) pc ls st)
def CX (G : KX) (D : va_G) (cc : ByteArray) (own : String) (nL : Nat) : Prop :=
  (kp G).tables.exec = Jvm.exec ∧ (kc G).code = cc ∧ (kc G).maxLocals = nL ∧ (ks G).vm.findClass own = some (km G).cls ∧ (∀ w ∈ wsL_law, w.before (ka G) (ks G) = true) ∧ KT D (ks G) ∧ ∀ q : Nat, (ks G).heap.size ≤ q → kA G q
section CXs
variable {G : KX} {D : va_G} {cc : ByteArray} {own : String} {nL : Nat}
theorem CX.ex (h : CX G D cc own nL) : (kp G).tables.exec = Jvm.exec := h.1
theorem CX.cd (h : CX G D cc own nL) : (kc G).code = cc := h.2.1
theorem CX.ml (h : CX G D cc own nL) : (kc G).maxLocals = nL := h.2.2.1
theorem CX.on (h : CX G D cc own nL) : (ks G).vm.findClass own = some (km G).cls := h.2.2.2.1
theorem CX.wd (h : CX G D cc own nL) : ∀ w ∈ wsL_law, w.before (ka G) (ks G) = true := h.2.2.2.2.1
theorem CX.kt (h : CX G D cc own nL) : KT D (ks G) := h.2.2.2.2.2.1
theorem CX.kk (h : CX G D cc own nL) : va_K D vwCl (kty D) (ks G) := h.2.2.2.2.2.1.1
theorem CX.nw (h : CX G D cc own nL) : ∀ q : Nat, (ks G).heap.size ≤ q → kA G q := h.2.2.2.2.2.2
theorem CX.fix (h : CX G D cc own nL) : CallFix (kp G) (km G) (kc G) cc nL (ks G) (ka G) wsL_law own := ⟨h.ex, h.cd, h.ml, h.on, h.wd⟩
end CXs
/-- a local by its number -/
def lvg : List (Nat × Value) → Nat → Option Value
  | [], _ => none
  | (a, v) :: l, i => match Nat.beq a i with
    | true => some v
    | false => lvg l i
theorem lvg_at {ls : Array Slot} {n : Nat} : ∀ {lv : List (Nat × Value)} {i : Nat} {v : Value}, lv_has ls n lv → lvg lv i = some v → ls[i]? = some (.val v)
  | [], _, _, _, h => by cases h
  | (a, w) :: l, i, v, hl, h => by
    unfold lvg at h
    cases hb : Nat.beq a i with
    | true =>
      rw [hb] at h
      have e : a = i := Nat.eq_of_beq_eq_true hb
      subst e
      cases h
      exact hl.2.2 (a, w) List.mem_cons_self
    | false =>
      rw [hb] at h
      exact lvg_at ⟨hl.1, hl.2.1, fun q hq => hl.2.2 q (List.mem_cons_of_mem _ hq)⟩ h
section KS
variable {l : Launch} {G : KX} {D : va_G} {R : Room} {cc : ByteArray} {own : String} {nL ce sl : Nat} {ws : va_W} {lv lv' : List (Nat × Value)} {st : List Value}
theorem KJ.eqs {pc : Nat} {st' : List Value} (e : st = st') (k : KJ l G D R nL ce sl ws lv pc st') : KJ l G D R nL ce sl ws lv pc st := by rw [e]; exact k
theorem KJ.eqw {pc : Nat} {ws' : va_W} (e : ws = ws') (k : KJ l G D R nL ce sl ws' lv pc st) : KJ l G D R nL ce sl ws lv pc st := by rw [e]; exact k
theorem KJ.topi {pc : Nat} {x y : Int32} (e : x = y) (k : KJ l G D R nL ce sl ws lv pc (.int y :: st)) : KJ l G D R nL ce sl ws lv pc (.int x :: st) := by rw [e]; exact k
theorem KJ.topl {pc : Nat} {x y : Int64} (e : x = y) (k : KJ l G D R nL ce sl ws lv pc (.long y :: st)) : KJ l G D R nL ce sl ws lv pc (.long x :: st) := by rw [e]; exact k
theorem KJ.wide {pc ce' sl' : Nat} (h1 : ce ≤ ce') (h2 : sl ≤ sl') (k : KJ l G D R nL ce' sl' ws lv pc st) : KJ l G D R nL ce sl ws lv pc st := fun H locs ls hP hD hS hl => W.widen h1 h2 (k H locs ls hP hD hS hl)
/-- fewer locals, in any order, by their numbers -/
theorem KJ.lvs {pc : Nat} (h : lv'.all (fun q => match lvg lv q.1 with | some _ => true | none => false) = true) (h2 : ∀ q ∈ lv', lvg lv q.1 = some q.2) (k : KJ l G D R nL ce sl ws lv' pc st) : KJ l G D R nL ce sl ws lv pc st := fun H locs ls hP hD hS hl => k H locs ls hP hD hS ⟨hl.1, hl.2.1, fun q hq => lvg_at hl (h2 q hq)⟩
theorem KJ.lvp {pc : Nat} (ks : List Nat) (h : lv_pick lv ks = lv') (k : KJ l G D R nL ce sl ws lv' pc st) : KJ l G D R nL ce sl ws lv pc st := fun H locs ls hP hD hS hl => k H locs ls hP hD hS (lv_sub hl ks h)
/-- a part of the world, in any order -/
theorem KJ.sub {pc : Nat} {ws' : va_W} (is : List Nat) (hn : va_nd is = true) (h1 : is.filterMap (fun i => ws[i]?) = ws') (h2 : is.map (fun i => ws[i]?) = ws'.map some) (k : KJ l G D R nL ce sl ws' lv pc st) : KJ l G D R nL ce sl ws lv pc st := fun H locs ls hP hD hS hl => k H locs ls (hP.sub is h1) (hD.sub is hn h2) hS hl

theorem k_iconst (hC : CX G D cc own nL) (pc : Nat) {n : Int} (hdg : decode cc pc = .ok (.iconst n, 1)) (v : Int32) (hv : Int32.ofInt n = v) (k : KJ l G D R nL ce sl ws lv (pc + 1) (.int v :: st)) : KJ l G D R nL ce sl ws lv pc (st) := fun H locs ls hP hD hS hl => lv_iconst hC.ex hC.cd hdg hv (k H locs ls hP hD hS hl)
theorem k_bipush (hC : CX G D cc own nL) (pc : Nat) {n : Int} (hdg : decode cc pc = .ok (.bipush n, 2)) (v : Int32) (hv : (Int8.ofInt n).toInt32 = v) (k : KJ l G D R nL ce sl ws lv (pc + 2) (.int v :: st)) : KJ l G D R nL ce sl ws lv pc (st) := fun H locs ls hP hD hS hl => lv_bipush hC.ex hC.cd hdg hv (k H locs ls hP hD hS hl)
theorem k_sipush (hC : CX G D cc own nL) (pc : Nat) {n : Int} (hdg : decode cc pc = .ok (.sipush n, 3)) (v : Int32) (hv : (Int16.ofInt n).toInt32 = v) (k : KJ l G D R nL ce sl ws lv (pc + 3) (.int v :: st)) : KJ l G D R nL ce sl ws lv pc (st) := fun H locs ls hP hD hS hl => lv_sipush hC.ex hC.cd hdg hv (k H locs ls hP hD hS hl)
theorem k_iload_n (hC : CX G D cc own nL) (pc : Nat) {k0 : Fin 4} (hdg : decode cc pc = .ok (.iload_n k0, 1)) {x : Int32} (hg : lvg lv (k0 : Nat) = some (.int x)) (k : KJ l G D R nL ce sl ws lv (pc + 1) (.int x :: st)) : KJ l G D R nL ce sl ws lv pc (st) := fun H locs ls hP hD hS hl => lv_iload_n hC.ex hC.cd hdg rfl (lvg_at hl hg) (k H locs ls hP hD hS hl)
theorem k_iload (hC : CX G D cc own nL) (pc : Nat) {i0 : Nat} (hdg : decode cc pc = .ok (.iload i0, 2)) {x : Int32} (hg : lvg lv i0 = some (.int x)) (k : KJ l G D R nL ce sl ws lv (pc + 2) (.int x :: st)) : KJ l G D R nL ce sl ws lv pc (st) := fun H locs ls hP hD hS hl => lv_iload hC.ex hC.cd hdg (lvg_at hl hg) (k H locs ls hP hD hS hl)
theorem k_lload_n (hC : CX G D cc own nL) (pc : Nat) {k0 : Fin 4} (hdg : decode cc pc = .ok (.lload_n k0, 1)) {x : Int64} (hg : lvg lv (k0 : Nat) = some (.long x)) (k : KJ l G D R nL ce sl ws lv (pc + 1) (.long x :: st)) : KJ l G D R nL ce sl ws lv pc (st) := fun H locs ls hP hD hS hl => lv_lload_n hC.ex hC.cd hdg rfl (lvg_at hl hg) (k H locs ls hP hD hS hl)
theorem k_lload (hC : CX G D cc own nL) (pc : Nat) {i0 : Nat} (hdg : decode cc pc = .ok (.lload i0, 2)) {x : Int64} (hg : lvg lv i0 = some (.long x)) (k : KJ l G D R nL ce sl ws lv (pc + 2) (.long x :: st)) : KJ l G D R nL ce sl ws lv pc (st) := fun H locs ls hP hD hS hl => lv_lload hC.ex hC.cd hdg (lvg_at hl hg) (k H locs ls hP hD hS hl)
theorem k_aload_n (hC : CX G D cc own nL) (pc : Nat) {k0 : Fin 4} (hdg : decode cc pc = .ok (.aload_n k0, 1)) {x : Nat} (hg : lvg lv (k0 : Nat) = some (.ref x)) (k : KJ l G D R nL ce sl ws lv (pc + 1) (.ref x :: st)) : KJ l G D R nL ce sl ws lv pc (st) := fun H locs ls hP hD hS hl => lv_aload_n hC.ex hC.cd hdg rfl (lvg_at hl hg) (k H locs ls hP hD hS hl)
theorem k_aload (hC : CX G D cc own nL) (pc : Nat) {i0 : Nat} (hdg : decode cc pc = .ok (.aload i0, 2)) {x : Nat} (hg : lvg lv i0 = some (.ref x)) (k : KJ l G D R nL ce sl ws lv (pc + 2) (.ref x :: st)) : KJ l G D R nL ce sl ws lv pc (st) := fun H locs ls hP hD hS hl => lv_aload hC.ex hC.cd hdg (lvg_at hl hg) (k H locs ls hP hD hS hl)
theorem k_dload_n (hC : CX G D cc own nL) (pc : Nat) {k0 : Fin 4} (hdg : decode cc pc = .ok (.dload_n k0, 1)) {x : UInt64} (hg : lvg lv (k0 : Nat) = some (.double x)) (k : KJ l G D R nL ce sl ws lv (pc + 1) (.double x :: st)) : KJ l G D R nL ce sl ws lv pc (st) := fun H locs ls hP hD hS hl => lv_dload_n hC.ex hC.cd hdg rfl (lvg_at hl hg) (k H locs ls hP hD hS hl)
theorem k_dload (hC : CX G D cc own nL) (pc : Nat) {i0 : Nat} (hdg : decode cc pc = .ok (.dload i0, 2)) {x : UInt64} (hg : lvg lv i0 = some (.double x)) (k : KJ l G D R nL ce sl ws lv (pc + 2) (.double x :: st)) : KJ l G D R nL ce sl ws lv pc (st) := fun H locs ls hP hD hS hl => lv_dload hC.ex hC.cd hdg (lvg_at hl hg) (k H locs ls hP hD hS hl)
theorem k_istore_n (hC : CX G D cc own nL) (pc : Nat) {k0 : Fin 4} (i1 : Nat) {x : Int32} (lv' : List (Nat × Value)) (hdg : decode cc pc = .ok (.istore_n k0, 1)) (hi : (k0 : Nat) = i1) (hn : i1 < nL) (he : (i1, Value.int x) :: lv.filter (fun q => !(q.1 == i1) && !(q.1 + 1 == i1 && q.2.category == 2)) = lv') (k : KJ l G D R nL ce sl ws lv' (pc + 1) st) : KJ l G D R nL ce sl ws lv pc (.int x :: st) := fun H locs ls hP hD hS hl => lv_istore_n hC.ex hC.cd hdg hi hl hn he (fun ls' hl' => k H locs ls' hP hD hS hl')
theorem k_istore (hC : CX G D cc own nL) (pc : Nat) (i1 : Nat) {x : Int32} (lv' : List (Nat × Value)) (hdg : decode cc pc = .ok (.istore i1, 2)) (hn : i1 < nL) (he : (i1, Value.int x) :: lv.filter (fun q => !(q.1 == i1) && !(q.1 + 1 == i1 && q.2.category == 2)) = lv') (k : KJ l G D R nL ce sl ws lv' (pc + 2) st) : KJ l G D R nL ce sl ws lv pc (.int x :: st) := fun H locs ls hP hD hS hl => lv_istore hC.ex hC.cd hdg hl hn he (fun ls' hl' => k H locs ls' hP hD hS hl')
theorem k_astore_n (hC : CX G D cc own nL) (pc : Nat) {k0 : Fin 4} (i1 : Nat) {x : Nat} (lv' : List (Nat × Value)) (hdg : decode cc pc = .ok (.astore_n k0, 1)) (hi : (k0 : Nat) = i1) (hn : i1 < nL) (he : (i1, Value.ref x) :: lv.filter (fun q => !(q.1 == i1) && !(q.1 + 1 == i1 && q.2.category == 2)) = lv') (k : KJ l G D R nL ce sl ws lv' (pc + 1) st) : KJ l G D R nL ce sl ws lv pc (.ref x :: st) := fun H locs ls hP hD hS hl => lv_astore_n hC.ex hC.cd hdg hi hl hn he (fun ls' hl' => k H locs ls' hP hD hS hl')
theorem k_astore (hC : CX G D cc own nL) (pc : Nat) (i1 : Nat) {x : Nat} (lv' : List (Nat × Value)) (hdg : decode cc pc = .ok (.astore i1, 2)) (hn : i1 < nL) (he : (i1, Value.ref x) :: lv.filter (fun q => !(q.1 == i1) && !(q.1 + 1 == i1 && q.2.category == 2)) = lv') (k : KJ l G D R nL ce sl ws lv' (pc + 2) st) : KJ l G D R nL ce sl ws lv pc (.ref x :: st) := fun H locs ls hP hD hS hl => lv_astore hC.ex hC.cd hdg hl hn he (fun ls' hl' => k H locs ls' hP hD hS hl')
theorem k_lstore_n (hC : CX G D cc own nL) (pc : Nat) {k0 : Fin 4} (i1 : Nat) {x : Int64} (lv' : List (Nat × Value)) (hdg : decode cc pc = .ok (.lstore_n k0, 1)) (hi : (k0 : Nat) = i1) (hn : i1 + 1 < nL) (he : (i1, Value.long x) :: lv.filter (fun q => !(q.1 == i1) && (!(q.1 == i1 + 1) && !(q.1 + 1 == i1 && q.2.category == 2))) = lv') (k : KJ l G D R nL ce sl ws lv' (pc + 1) st) : KJ l G D R nL ce sl ws lv pc (.long x :: st) := fun H locs ls hP hD hS hl => lv_lstore_n hC.ex hC.cd hdg hi hl hn he (fun ls' hl' => k H locs ls' hP hD hS hl')
theorem k_lstore (hC : CX G D cc own nL) (pc : Nat) (i1 : Nat) {x : Int64} (lv' : List (Nat × Value)) (hdg : decode cc pc = .ok (.lstore i1, 2)) (hn : i1 + 1 < nL) (he : (i1, Value.long x) :: lv.filter (fun q => !(q.1 == i1) && (!(q.1 == i1 + 1) && !(q.1 + 1 == i1 && q.2.category == 2))) = lv') (k : KJ l G D R nL ce sl ws lv' (pc + 2) st) : KJ l G D R nL ce sl ws lv pc (.long x :: st) := fun H locs ls hP hD hS hl => lv_lstore hC.ex hC.cd hdg hl hn he (fun ls' hl' => k H locs ls' hP hD hS hl')
theorem k_dstore_n (hC : CX G D cc own nL) (pc : Nat) {k0 : Fin 4} (i1 : Nat) {x : UInt64} (lv' : List (Nat × Value)) (hdg : decode cc pc = .ok (.dstore_n k0, 1)) (hi : (k0 : Nat) = i1) (hn : i1 + 1 < nL) (he : (i1, Value.double x) :: lv.filter (fun q => !(q.1 == i1) && (!(q.1 == i1 + 1) && !(q.1 + 1 == i1 && q.2.category == 2))) = lv') (k : KJ l G D R nL ce sl ws lv' (pc + 1) st) : KJ l G D R nL ce sl ws lv pc (.double x :: st) := fun H locs ls hP hD hS hl => lv_dstore_n hC.ex hC.cd hdg hi hl hn he (fun ls' hl' => k H locs ls' hP hD hS hl')
theorem k_dstore (hC : CX G D cc own nL) (pc : Nat) (i1 : Nat) {x : UInt64} (lv' : List (Nat × Value)) (hdg : decode cc pc = .ok (.dstore i1, 2)) (hn : i1 + 1 < nL) (he : (i1, Value.double x) :: lv.filter (fun q => !(q.1 == i1) && (!(q.1 == i1 + 1) && !(q.1 + 1 == i1 && q.2.category == 2))) = lv') (k : KJ l G D R nL ce sl ws lv' (pc + 2) st) : KJ l G D R nL ce sl ws lv pc (.double x :: st) := fun H locs ls hP hD hS hl => lv_dstore hC.ex hC.cd hdg hl hn he (fun ls' hl' => k H locs ls' hP hD hS hl')
theorem k_iinc (hC : CX G D cc own nL) (pc : Nat) {i1 : Nat} {n : Int} (k0 : Nat) {x : Int32} (v : Int32) (lv' : List (Nat × Value)) (hdg : decode cc pc = .ok (.iinc i1 n, 3)) (hk : lv[k0]? = some (i1, .int x)) (hv : x + Int32.ofInt n = v) (hn : i1 < nL) (he : (i1, Value.int v) :: lv.filter (fun q => !(q.1 == i1) && !(q.1 + 1 == i1 && q.2.category == 2)) = lv') (k : KJ l G D R nL ce sl ws lv' (pc + 3) st) : KJ l G D R nL ce sl ws lv pc st := fun H locs ls hP hD hS hl => lv_iinc hC.ex hC.cd hdg hl hk hv hn he (fun ls' hl' => k H locs ls' hP hD hS hl')
theorem k_iadd (hC : CX G D cc own nL) (pc : Nat) {x y : Int32} (hdg : decode cc pc = .ok (.iadd, 1)) (k : KJ l G D R nL ce sl ws lv (pc + 1) (.int (x + y) :: st)) : KJ l G D R nL ce sl ws lv pc (.int y :: .int x :: st) := fun H locs ls hP hD hS hl => lv_iadd hC.ex hC.cd hdg (k H locs ls hP hD hS hl)
theorem k_isub (hC : CX G D cc own nL) (pc : Nat) {x y : Int32} (hdg : decode cc pc = .ok (.isub, 1)) (k : KJ l G D R nL ce sl ws lv (pc + 1) (.int (x - y) :: st)) : KJ l G D R nL ce sl ws lv pc (.int y :: .int x :: st) := fun H locs ls hP hD hS hl => lv_isub hC.ex hC.cd hdg (k H locs ls hP hD hS hl)
theorem k_imul (hC : CX G D cc own nL) (pc : Nat) {x y : Int32} (hdg : decode cc pc = .ok (.imul, 1)) (k : KJ l G D R nL ce sl ws lv (pc + 1) (.int (x * y) :: st)) : KJ l G D R nL ce sl ws lv pc (.int y :: .int x :: st) := fun H locs ls hP hD hS hl => lv_imul hC.ex hC.cd hdg (k H locs ls hP hD hS hl)
theorem k_iand (hC : CX G D cc own nL) (pc : Nat) {x y : Int32} (hdg : decode cc pc = .ok (.iand, 1)) (k : KJ l G D R nL ce sl ws lv (pc + 1) (.int (x &&& y) :: st)) : KJ l G D R nL ce sl ws lv pc (.int y :: .int x :: st) := fun H locs ls hP hD hS hl => lv_iand hC.ex hC.cd hdg (k H locs ls hP hD hS hl)
theorem k_idiv (hC : CX G D cc own nL) (pc : Nat) {x y : Int32} (hdg : decode cc pc = .ok (.idiv, 1)) (hne : ¬ y = 0) (k : KJ l G D R nL ce sl ws lv (pc + 1) (.int (x / y) :: st)) : KJ l G D R nL ce sl ws lv pc (.int y :: .int x :: st) := fun H locs ls hP hD hS hl => lv_idiv hC.ex hC.cd hdg hne (k H locs ls hP hD hS hl)
theorem k_irem (hC : CX G D cc own nL) (pc : Nat) {x y : Int32} (hdg : decode cc pc = .ok (.irem, 1)) (hne : ¬ y = 0) (k : KJ l G D R nL ce sl ws lv (pc + 1) (.int (x - x / y * y) :: st)) : KJ l G D R nL ce sl ws lv pc (.int y :: .int x :: st) := fun H locs ls hP hD hS hl => lv_irem hC.ex hC.cd hdg hne (k H locs ls hP hD hS hl)
theorem k_ladd (hC : CX G D cc own nL) (pc : Nat) {x y : Int64} (hdg : decode cc pc = .ok (.ladd, 1)) (k : KJ l G D R nL ce sl ws lv (pc + 1) (.long (x + y) :: st)) : KJ l G D R nL ce sl ws lv pc (.long y :: .long x :: st) := fun H locs ls hP hD hS hl => lv_ladd hC.ex hC.cd hdg (k H locs ls hP hD hS hl)
theorem k_lmul (hC : CX G D cc own nL) (pc : Nat) {x y : Int64} (hdg : decode cc pc = .ok (.lmul, 1)) (k : KJ l G D R nL ce sl ws lv (pc + 1) (.long (x * y) :: st)) : KJ l G D R nL ce sl ws lv pc (.long y :: .long x :: st) := fun H locs ls hP hD hS hl => lv_lmul hC.ex hC.cd hdg (k H locs ls hP hD hS hl)
theorem k_lcmp (hC : CX G D cc own nL) (pc : Nat) {x y : Int64} (hdg : decode cc pc = .ok (.lcmp, 1)) (k : KJ l G D R nL ce sl ws lv (pc + 1) (.int (lg_cmp x y) :: st)) : KJ l G D R nL ce sl ws lv pc (.long y :: .long x :: st) := fun H locs ls hP hD hS hl => W.lcmp hC.ex hC.cd hdg (k H locs ls hP hD hS hl)
theorem k_i2l (hC : CX G D cc own nL) (pc : Nat) {x : Int32} (hdg : decode cc pc = .ok (.i2l, 1)) (v : Int64) (hv : x.toInt64 = v) (k : KJ l G D R nL ce sl ws lv (pc + 1) (.long v :: st)) : KJ l G D R nL ce sl ws lv pc (.int x :: st) := fun H locs ls hP hD hS hl => lv_i2l hC.ex hC.cd hdg hv (k H locs ls hP hD hS hl)
theorem k_i2d (hC : CX G D cc own nL) (pc : Nat) {x : Int32} (hdg : decode cc pc = .ok (.i2d, 1)) (k : KJ l G D R nL ce sl ws lv (pc + 1) (.double (FP.i2d x) :: st)) : KJ l G D R nL ce sl ws lv pc (.int x :: st) := fun H locs ls hP hD hS hl => lv_i2d hC.ex hC.cd hdg (k H locs ls hP hD hS hl)
theorem k_dcmp (hC : CX G D cc own nL) (pc : Nat) {x y : UInt64} {op : CmpOp} (hdg : decode cc pc = .ok (.dcmp op, 1)) (k : KJ l G D R nL ce sl ws lv (pc + 1) (.int (Op.cmpValue (FP.dcmp x y) op) :: st)) : KJ l G D R nL ce sl ws lv pc (.double y :: .double x :: st) := fun H locs ls hP hD hS hl => lv_dcmp hC.ex hC.cd hdg (k H locs ls hP hD hS hl)
theorem k_ddiv (hC : CX G D cc own nL) (pc : Nat) {x y : UInt64} (hdg : decode cc pc = .ok (.ddiv, 1)) (hne : vf_n64 (FP.ddiv x y)) (k : KJ l G D R nL ce sl ws lv (pc + 1) (.double (FP.ddiv x y) :: st)) : KJ l G D R nL ce sl ws lv pc (.double y :: .double x :: st) := fun H locs ls hP hD hS hl => lv_ddiv hC.ex hC.cd hdg hne (k H locs ls hP hD hS hl)
theorem k_dconst0 (hC : CX G D cc own nL) (pc : Nat) (hdg : decode cc pc = .ok (.dconst 0, 1)) (k : KJ l G D R nL ce sl ws lv (pc + 1) (.double FP.dconst0 :: st)) : KJ l G D R nL ce sl ws lv pc (st) := fun H locs ls hP hD hS hl => lv_dconst0 hC.ex hC.cd hdg (k H locs ls hP hD hS hl)
theorem k_dup (hC : CX G D cc own nL) (pc : Nat) {va : Value} (hdg : decode cc pc = .ok (.dup, 1)) (hva : va.category = 1) (k : KJ l G D R nL ce sl ws lv (pc + 1) (va :: va :: st)) : KJ l G D R nL ce sl ws lv pc (va :: st) := fun H locs ls hP hD hS hl => lv_dup hC.ex hC.cd hdg hva (k H locs ls hP hD hS hl)
theorem k_pop (hC : CX G D cc own nL) (pc : Nat) {va : Value} (hdg : decode cc pc = .ok (.pop, 1)) (hva : va.category = 1) (k : KJ l G D R nL ce sl ws lv (pc + 1) (st)) : KJ l G D R nL ce sl ws lv pc (va :: st) := fun H locs ls hP hD hS hl => lv_pop hC.ex hC.cd hdg hva (k H locs ls hP hD hS hl)
theorem k_dup2 (hC : CX G D cc own nL) (pc : Nat) {va vb : Value} (hdg : decode cc pc = .ok (.dup2, 1)) (hva : va.category = 1) (hvb : vb.category = 1) (k : KJ l G D R nL ce sl ws lv (pc + 1) (va :: vb :: va :: vb :: st)) : KJ l G D R nL ce sl ws lv pc (va :: vb :: st) := fun H locs ls hP hD hS hl => lv_dup2_11 hC.ex hC.cd hdg hva hvb (k H locs ls hP hD hS hl)
theorem k_ldc (hC : CX G D cc own nL) (pc : Nat) {ix : Nat} (v : Int32) (hdg : decode cc pc = .ok (.ldc ix, 2)) (hw : Cond.constant own ix v ∈ wsL_law) (k : KJ l G D R nL ce sl ws lv (pc + 2) (.int v :: st)) : KJ l G D R nL ce sl ws lv pc st := fun H locs ls hP hD hS hl => lv_ldc hC.ex hC.cd hC.on (hC.wd _ hw) hdg (k H locs ls hP hD hS hl)
theorem k_ldc2 (hC : CX G D cc own nL) (pc : Nat) {ix : Nat} (v : Int64) (hdg : decode cc pc = .ok (.ldc2_w ix, 3)) (hw : Cond.constantLong own ix v ∈ wsL_law) (k : KJ l G D R nL ce sl ws lv (pc + 3) (.long v :: st)) : KJ l G D R nL ce sl ws lv pc st := fun H locs ls hP hD hS hl => lv_ldc2 hC.ex hC.cd hC.on (hC.wd _ hw) hdg (k H locs ls hP hD hS hl)
theorem k_goto (hC : CX G D cc own nL) (pc : Nat) {off : Int} (tgt : Nat) (hdg : decode cc pc = .ok (.goto off, 3)) (ht : (pc : Int) + off = (tgt : Int)) (k : KJ l G D R nL ce sl ws lv tgt st) : KJ l G D R nL ce sl ws lv pc st := fun H locs ls hP hD hS hl => lv_goto hC.ex hC.cd hdg ht (k H locs ls hP hD hS hl)
theorem k_if_eq (hC : CX G D cc own nL) (pc : Nat) {x : Int32} {off : Int} (tgt : Nat) (hdg : decode cc pc = .ok (.ifCond .eq off, 3)) (ht : (pc : Int) + off = (tgt : Int)) (kt : x = 0 → KJ l G D R nL ce sl ws lv tgt st) (kf : ¬ x = 0 → KJ l G D R nL ce sl ws lv (pc + 3) st) : KJ l G D R nL ce sl ws lv pc (.int x :: st) := fun H locs ls hP hD hS hl => lv_if_eq hC.ex hC.cd hdg ht (fun h => kt h H locs ls hP hD hS hl) (fun h => kf h H locs ls hP hD hS hl)
theorem k_icmp_eq (hC : CX G D cc own nL) (pc : Nat) {x y : Int32} {off : Int} (tgt : Nat) (hdg : decode cc pc = .ok (.if_icmp .eq off, 3)) (ht : (pc : Int) + off = (tgt : Int)) (kt : x = y → KJ l G D R nL ce sl ws lv tgt st) (kf : ¬ x = y → KJ l G D R nL ce sl ws lv (pc + 3) st) : KJ l G D R nL ce sl ws lv pc (.int y :: .int x :: st) := fun H locs ls hP hD hS hl => lv_icmp_eq hC.ex hC.cd hdg ht (fun h => kt h H locs ls hP hD hS hl) (fun h => kf h H locs ls hP hD hS hl)
theorem k_if_ne (hC : CX G D cc own nL) (pc : Nat) {x : Int32} {off : Int} (tgt : Nat) (hdg : decode cc pc = .ok (.ifCond .ne off, 3)) (ht : (pc : Int) + off = (tgt : Int)) (kt : ¬ x = 0 → KJ l G D R nL ce sl ws lv tgt st) (kf : x = 0 → KJ l G D R nL ce sl ws lv (pc + 3) st) : KJ l G D R nL ce sl ws lv pc (.int x :: st) := fun H locs ls hP hD hS hl => lv_if_ne hC.ex hC.cd hdg ht (fun h => kt h H locs ls hP hD hS hl) (fun h => kf h H locs ls hP hD hS hl)
theorem k_icmp_ne (hC : CX G D cc own nL) (pc : Nat) {x y : Int32} {off : Int} (tgt : Nat) (hdg : decode cc pc = .ok (.if_icmp .ne off, 3)) (ht : (pc : Int) + off = (tgt : Int)) (kt : ¬ x = y → KJ l G D R nL ce sl ws lv tgt st) (kf : x = y → KJ l G D R nL ce sl ws lv (pc + 3) st) : KJ l G D R nL ce sl ws lv pc (.int y :: .int x :: st) := fun H locs ls hP hD hS hl => lv_icmp_ne hC.ex hC.cd hdg ht (fun h => kt h H locs ls hP hD hS hl) (fun h => kf h H locs ls hP hD hS hl)
theorem k_if_lt (hC : CX G D cc own nL) (pc : Nat) {x : Int32} {off : Int} (tgt : Nat) (hdg : decode cc pc = .ok (.ifCond .lt off, 3)) (ht : (pc : Int) + off = (tgt : Int)) (kt : x < 0 → KJ l G D R nL ce sl ws lv tgt st) (kf : ¬ x < 0 → KJ l G D R nL ce sl ws lv (pc + 3) st) : KJ l G D R nL ce sl ws lv pc (.int x :: st) := fun H locs ls hP hD hS hl => lv_if_lt hC.ex hC.cd hdg ht (fun h => kt h H locs ls hP hD hS hl) (fun h => kf h H locs ls hP hD hS hl)
theorem k_icmp_lt (hC : CX G D cc own nL) (pc : Nat) {x y : Int32} {off : Int} (tgt : Nat) (hdg : decode cc pc = .ok (.if_icmp .lt off, 3)) (ht : (pc : Int) + off = (tgt : Int)) (kt : x < y → KJ l G D R nL ce sl ws lv tgt st) (kf : ¬ x < y → KJ l G D R nL ce sl ws lv (pc + 3) st) : KJ l G D R nL ce sl ws lv pc (.int y :: .int x :: st) := fun H locs ls hP hD hS hl => lv_icmp_lt hC.ex hC.cd hdg ht (fun h => kt h H locs ls hP hD hS hl) (fun h => kf h H locs ls hP hD hS hl)
theorem k_if_ge (hC : CX G D cc own nL) (pc : Nat) {x : Int32} {off : Int} (tgt : Nat) (hdg : decode cc pc = .ok (.ifCond .ge off, 3)) (ht : (pc : Int) + off = (tgt : Int)) (kt : 0 ≤ x → KJ l G D R nL ce sl ws lv tgt st) (kf : ¬ 0 ≤ x → KJ l G D R nL ce sl ws lv (pc + 3) st) : KJ l G D R nL ce sl ws lv pc (.int x :: st) := fun H locs ls hP hD hS hl => lv_if_ge hC.ex hC.cd hdg ht (fun h => kt h H locs ls hP hD hS hl) (fun h => kf h H locs ls hP hD hS hl)
theorem k_icmp_ge (hC : CX G D cc own nL) (pc : Nat) {x y : Int32} {off : Int} (tgt : Nat) (hdg : decode cc pc = .ok (.if_icmp .ge off, 3)) (ht : (pc : Int) + off = (tgt : Int)) (kt : y ≤ x → KJ l G D R nL ce sl ws lv tgt st) (kf : ¬ y ≤ x → KJ l G D R nL ce sl ws lv (pc + 3) st) : KJ l G D R nL ce sl ws lv pc (.int y :: .int x :: st) := fun H locs ls hP hD hS hl => lv_icmp_ge hC.ex hC.cd hdg ht (fun h => kt h H locs ls hP hD hS hl) (fun h => kf h H locs ls hP hD hS hl)
theorem k_if_gt (hC : CX G D cc own nL) (pc : Nat) {x : Int32} {off : Int} (tgt : Nat) (hdg : decode cc pc = .ok (.ifCond .gt off, 3)) (ht : (pc : Int) + off = (tgt : Int)) (kt : 0 < x → KJ l G D R nL ce sl ws lv tgt st) (kf : ¬ 0 < x → KJ l G D R nL ce sl ws lv (pc + 3) st) : KJ l G D R nL ce sl ws lv pc (.int x :: st) := fun H locs ls hP hD hS hl => lv_if_gt hC.ex hC.cd hdg ht (fun h => kt h H locs ls hP hD hS hl) (fun h => kf h H locs ls hP hD hS hl)
theorem k_icmp_gt (hC : CX G D cc own nL) (pc : Nat) {x y : Int32} {off : Int} (tgt : Nat) (hdg : decode cc pc = .ok (.if_icmp .gt off, 3)) (ht : (pc : Int) + off = (tgt : Int)) (kt : y < x → KJ l G D R nL ce sl ws lv tgt st) (kf : ¬ y < x → KJ l G D R nL ce sl ws lv (pc + 3) st) : KJ l G D R nL ce sl ws lv pc (.int y :: .int x :: st) := fun H locs ls hP hD hS hl => lv_icmp_gt hC.ex hC.cd hdg ht (fun h => kt h H locs ls hP hD hS hl) (fun h => kf h H locs ls hP hD hS hl)
theorem k_if_le (hC : CX G D cc own nL) (pc : Nat) {x : Int32} {off : Int} (tgt : Nat) (hdg : decode cc pc = .ok (.ifCond .le off, 3)) (ht : (pc : Int) + off = (tgt : Int)) (kt : x ≤ 0 → KJ l G D R nL ce sl ws lv tgt st) (kf : ¬ x ≤ 0 → KJ l G D R nL ce sl ws lv (pc + 3) st) : KJ l G D R nL ce sl ws lv pc (.int x :: st) := fun H locs ls hP hD hS hl => lv_if_le hC.ex hC.cd hdg ht (fun h => kt h H locs ls hP hD hS hl) (fun h => kf h H locs ls hP hD hS hl)
theorem k_icmp_le (hC : CX G D cc own nL) (pc : Nat) {x y : Int32} {off : Int} (tgt : Nat) (hdg : decode cc pc = .ok (.if_icmp .le off, 3)) (ht : (pc : Int) + off = (tgt : Int)) (kt : x ≤ y → KJ l G D R nL ce sl ws lv tgt st) (kf : ¬ x ≤ y → KJ l G D R nL ce sl ws lv (pc + 3) st) : KJ l G D R nL ce sl ws lv pc (.int y :: .int x :: st) := fun H locs ls hP hD hS hl => lv_icmp_le hC.ex hC.cd hdg ht (fun h => kt h H locs ls hP hD hS hl) (fun h => kf h H locs ls hP hD hS hl)
theorem k_tableIn (hC : CX G D cc own nL) (pc : Nat) {dflt lo hi : Int} {offs : Array Int} {len : Nat} {x : Int32} {off : Int} (tgt : Nat) (hdg : decode cc pc = .ok (.tableswitch dflt lo hi offs, len)) (h1 : ¬ x.toInt < lo) (h2 : ¬ hi < x.toInt) (ho : offs[(x.toInt - lo).toNat]? = some off) (ht : (pc : Int) + off = (tgt : Int)) (k : KJ l G D R nL ce sl ws lv tgt st) : KJ l G D R nL ce sl ws lv pc (.int x :: st) := fun H locs ls hP hD hS hl => lv_tableIn hC.ex hC.cd hdg h1 h2 ho ht (k H locs ls hP hD hS hl)
theorem k_tableOut (hC : CX G D cc own nL) (pc : Nat) {dflt lo hi : Int} {offs : Array Int} {len : Nat} {x : Int32} (tgt : Nat) (hdg : decode cc pc = .ok (.tableswitch dflt lo hi offs, len)) (h : x.toInt < lo ∨ hi < x.toInt) (ht : (pc : Int) + dflt = (tgt : Int)) (k : KJ l G D R nL ce sl ws lv tgt st) : KJ l G D R nL ce sl ws lv pc (.int x :: st) := fun H locs ls hP hD hS hl => lv_tableOut hC.ex hC.cd hdg h ht (k H locs ls hP hD hS hl)
/-- fields -/
theorem k_getf (hC : CX G D cc own nL) (pc : Nat) {ix ci N a : Nat} {C : String} {T : u_T} (q0 : Nat) {fs : List Value} (k : Nat) {v : Value} (hdg : decode cc pc = .ok (.getfield ix, 3)) (he : ws[q0]? = some (a, .inr (ci, fs))) (hc : vwCl[ci]? = some (C, T, N)) (hin : ∀ w ∈ u_ws C T N, w ∈ wsL_law) (hk : k < N) (hw : Cond.fieldLink own ix (T k).1 (T k).2.1 (T k).2.2.1 ∈ wsL_law) (hv : fs[k]? = some v) (kk : KJ l G D R nL ce sl ws lv (pc + 3) (v :: st)) : KJ l G D R nL ce sl ws lv pc (.ref a :: st) := fun H locs ls hP hD hS hl => va_get hC.ex hC.cd hC.wd hin hC.on hC.kk hP q0 he hc k hk (hC.wd _ hw) (fun _ h => h) hv hdg (kk H locs ls hP hD hS hl)
theorem k_getfN (hC : CX G D cc own nL) (pc : Nat) {ix ci N a : Nat} {C host : String} {T : u_T} (q0 : Nat) {fs : List Value} (k : Nat) {v : Value} (hdg : decode cc pc = .ok (.getfield ix, 3)) (he : ws[q0]? = some (a, .inr (ci, fs))) (hc : vwCl[ci]? = some (C, T, N)) (hin : ∀ w ∈ u_ws C T N, w ∈ wsL_law) (hk : k < N) (hw : va_Nw (Cond.fieldLinkNest own ix (T k).1 (T k).2.1 (T k).2.2.1 host) (ks G)) (hv : fs[k]? = some v) (kk : KJ l G D R nL ce sl ws lv (pc + 3) (v :: st)) : KJ l G D R nL ce sl ws lv pc (.ref a :: st) := fun H locs ls hP hD hS hl => va_getN hC.ex hC.cd hC.wd hin hC.on hC.kk hP q0 he hc k hk (va_Nw.use rfl hw) (fun _ h => h) hv hdg (kk H locs ls hP hD hS hl)
theorem k_putf (hC : CX G D cc own nL) (pc : Nat) {ix ci N a : Nat} {C : String} {T : u_T} {ty0 : Nat → FieldType} (q0 : Nat) {fs : List Value} (k : Nat) {v : Value} (ws' : va_W) (hdg : decode cc pc = .ok (.putfield ix, 3)) (he : ws[q0]? = some (a, .inr (ci, fs))) (hc : vwCl[ci]? = some (C, T, N)) (hin : ∀ w ∈ u_ws C T N, w ∈ wsL_law) (hty : ∀ k, k < N → parseFieldDescriptor (T k).2.2.1 = some (ty0 k)) (hnm : ∀ a, a < N → ∀ b, b < N → a ≠ b → (T a).2.1 ≠ (T b).2.1) (hk : k < N) (hw : Cond.fieldLink own ix (T k).1 (T k).2.1 (T k).2.2.1 ∈ wsL_law) (hfin : (T k).2.2.2 = false) (hn : narrow (ty0 k) v = v) (hfit : fits (ty0 k) v = true) (hl0 : k < fs.length) (hws : ws.set q0 (a, .inr (ci, fs.set k v)) = ws') (kk : KJ l G D R nL ce sl ws' lv (pc + 3) st) : KJ l G D R nL ce sl ws lv pc (v :: .ref a :: st) := fun H locs ls hP hD hS hl => va_put hC.ex hC.cd hC.wd hin ty0 hty hnm hC.on hC.kk hP hD hS q0 he hc k hk (hC.wd _ hw) (fun _ h => h) hfin (hty k hk) hn hfit hl0 hdg (fun H1 locs1 hP1 hD1 hS1 => kk H1 locs1 ls (hws ▸ hP1) (hws ▸ hD1) hS1 hl)
theorem k_putfN (hC : CX G D cc own nL) (pc : Nat) {ix ci N a : Nat} {C host : String} {T : u_T} {ty0 : Nat → FieldType} (q0 : Nat) {fs : List Value} (k : Nat) {v : Value} (ws' : va_W) (hdg : decode cc pc = .ok (.putfield ix, 3)) (he : ws[q0]? = some (a, .inr (ci, fs))) (hc : vwCl[ci]? = some (C, T, N)) (hin : ∀ w ∈ u_ws C T N, w ∈ wsL_law) (hty : ∀ k, k < N → parseFieldDescriptor (T k).2.2.1 = some (ty0 k)) (hnm : ∀ a, a < N → ∀ b, b < N → a ≠ b → (T a).2.1 ≠ (T b).2.1) (hk : k < N) (hw : va_Nw (Cond.fieldLinkNest own ix (T k).1 (T k).2.1 (T k).2.2.1 host) (ks G)) (hfin : (T k).2.2.2 = false) (hn : narrow (ty0 k) v = v) (hfit : fits (ty0 k) v = true) (hl0 : k < fs.length) (hws : ws.set q0 (a, .inr (ci, fs.set k v)) = ws') (kk : KJ l G D R nL ce sl ws' lv (pc + 3) st) : KJ l G D R nL ce sl ws lv pc (v :: .ref a :: st) := fun H locs ls hP hD hS hl => va_putN hC.ex hC.cd hC.wd hin ty0 hty hnm hC.on hC.kk hP hD hS q0 he hc k hk (va_Nw.use rfl hw) (fun _ h => h) hfin (hty k hk) hn hfit hl0 hdg (fun H1 locs1 hP1 hD1 hS1 => kk H1 locs1 ls (hws ▸ hP1) (hws ▸ hD1) hS1 hl)
theorem k_putfF (hC : CX G D cc own nL) (pc : Nat) {ix ci N a : Nat} {C : String} {T : u_T} {ty0 : Nat → FieldType} (q0 : Nat) {fs : List Value} (k : Nat) {v : Value} (ws' : va_W) (hdg : decode cc pc = .ok (.putfield ix, 3)) (he : ws[q0]? = some (a, .inr (ci, fs))) (hc : vwCl[ci]? = some (C, T, N)) (hin : ∀ w ∈ u_ws C T N, w ∈ wsL_law) (hty : ∀ k, k < N → parseFieldDescriptor (T k).2.2.1 = some (ty0 k)) (hnm : ∀ a, a < N → ∀ b, b < N → a ≠ b → (T a).2.1 ≠ (T b).2.1) (hk : k < N) (hw : Cond.fieldLink own ix (T k).1 (T k).2.1 (T k).2.2.1 ∈ wsL_law) (hfin : (T k).2.2.2 = true) (hinit : (kme G).name = "<init>") (hdecl : (T k).1 = own) (hn : narrow (ty0 k) v = v) (hfit : fits (ty0 k) v = true) (hl0 : k < fs.length) (hws : ws.set q0 (a, .inr (ci, fs.set k v)) = ws') (kk : KJ l G D R nL ce sl ws' lv (pc + 3) st) : KJ l G D R nL ce sl ws lv pc (v :: .ref a :: st) := fun H locs ls hP hD hS hl => va_putF hC.ex hC.cd hC.wd hin ty0 hty hnm hC.on hC.kk hP hD hS q0 he hc k hk (hC.wd _ hw) (fun _ h => h) hfin hinit hdecl (hty k hk) hn hfit hl0 hdg (fun H1 locs1 hP1 hD1 hS1 => kk H1 locs1 ls (hws ▸ hP1) (hws ▸ hD1) hS1 hl)
/-- arrays -/
theorem k_iald (hC : CX G D cc own nL) (pc : Nat) {a n : Nat} {f : Nat → Int32} {i : Int32} (q0 : Nat) (hdg : decode cc pc = .ok (.iaload, 1)) (ha : ws[q0]? = some (a, .inl (D.1 5, n, .inl f))) (hi : vp_in i n) (kk : KJ l G D R nL ce sl ws lv (pc + 1) (.int (f i.toNatClampNeg) :: st)) : KJ l G D R nL ce sl ws lv pc (.int i :: .ref a :: st) := fun H locs ls hP hD hS hl => va_iald hC.ex hC.cd hC.kk hP q0 0 ha rfl hi hdg (kk H locs ls hP hD hS hl)
theorem k_iast (hC : CX G D cc own nL) (pc : Nat) {a n : Nat} {f : Nat → Int32} {i x : Int32} (q0 : Nat) (ws' : va_W) (hdg : decode cc pc = .ok (.iastore, 1)) (ha : ws[q0]? = some (a, .inl (D.1 5, n, .inl f))) (hi : vp_in i n) (hws : ws.set q0 (a, .inl (D.1 5, n, .inl (upd f i.toNatClampNeg x))) = ws') (kk : KJ l G D R nL ce sl ws' lv (pc + 1) st) : KJ l G D R nL ce sl ws lv pc (.int x :: .int i :: .ref a :: st) := fun H locs ls hP hD hS hl => va_iast hC.ex hC.cd hC.kk hP hD hS q0 0 ha rfl hi hdg (fun H1 locs1 hP1 hD1 hS1 => kk H1 locs1 ls (hws ▸ hP1) (hws ▸ hD1) hS1 hl)
theorem k_lald (hC : CX G D cc own nL) (pc : Nat) {a n : Nat} {f : Nat → Int64} {i : Int32} (q0 : Nat) (hdg : decode cc pc = .ok (.laload, 1)) (ha : ws[q0]? = some (a, .inl (D.1 6, n, .inr (.inl f)))) (hi : vp_in i n) (kk : KJ l G D R nL ce sl ws lv (pc + 1) (.long (f i.toNatClampNeg) :: st)) : KJ l G D R nL ce sl ws lv pc (.int i :: .ref a :: st) := fun H locs ls hP hD hS hl => va_lald hC.ex hC.cd hC.kk hP q0 1 ha rfl hi hdg (kk H locs ls hP hD hS hl)
theorem k_last (hC : CX G D cc own nL) (pc : Nat) {a n : Nat} {f : Nat → Int64} {i : Int32} {x : Int64} (q0 : Nat) (ws' : va_W) (hdg : decode cc pc = .ok (.lastore, 1)) (ha : ws[q0]? = some (a, .inl (D.1 6, n, .inr (.inl f)))) (hi : vp_in i n) (hws : ws.set q0 (a, .inl (D.1 6, n, .inr (.inl (vp_updL f i.toNatClampNeg x)))) = ws') (kk : KJ l G D R nL ce sl ws' lv (pc + 1) st) : KJ l G D R nL ce sl ws lv pc (.long x :: .int i :: .ref a :: st) := fun H locs ls hP hD hS hl => va_last hC.ex hC.cd hC.kk hP hD hS q0 1 ha rfl hi hdg (fun H1 locs1 hP1 hD1 hS1 => kk H1 locs1 ls (hws ▸ hP1) (hws ▸ hD1) hS1 hl)
theorem k_alen (hC : CX G D cc own nL) (pc : Nat) {a : Nat} {x : vp_A} (q0 t0 : Nat) {cA : ClassId} {ty : FieldType} (v : Int32) (hdg : decode cc pc = .ok (.arraylength, 1)) (ha : ws[q0]? = some (a, .inl (cA, x))) (ht : (kty D)[t0]? = some (cA, ty)) (hv : Int32.ofNat x.1 = v) (kk : KJ l G D R nL ce sl ws lv (pc + 1) (.int v :: st)) : KJ l G D R nL ce sl ws lv pc (.ref a :: st) := fun H locs ls hP hD hS hl => va_alen hC.ex hC.cd hC.kk hP q0 t0 ha ht hv hdg (kk H locs ls hP hD hS hl)
/-- Math.max, Math.min, System.arraycopy -/
theorem k_max (hC : CX G D cc own nL) (pc : Nat) {ix : Nat} {x y : Int32} (hdg : decode cc pc = .ok (.invokestatic ix, 3)) (hw : Cond.methodLink own ix Lib.Math.max.name ∈ wsL_law) (hw2 : Cond.static Lib.Math.max.name ∈ wsL_law) (hw3 : Cond.initialized "java/lang/Math" ∈ wsL_law) (hw4 : Cond.code Lib.Math.max.name Lib.Math.max.code 2 (some .int) ∈ wsL_law) (hR : 1 ≤ R.frames ∧ (st.map fun v => v.category).sum + 13 ≤ R.locals ∧ ce ≤ R.cells ∧ sl ≤ R.slots) (kk : KJ l G D R nL ce sl ws lv (pc + 3) (.int (if x < y then y else x) :: st)) : KJ l G D R nL ce sl ws lv pc (.int y :: .int x :: st) := fun H locs ls hP hD hS hl => va_mmax hC.ex hC.cd (hC.ml.trans hl.1.symm) hC.on (hC.wd _ hw) (hC.wd _ hw2) (hC.wd _ hw3) (hC.wd _ hw4) hR.1 hR.2.1 hR.2.2.1 hR.2.2.2 hdg (kk H locs ls hP hD hS hl)
theorem k_min (hC : CX G D cc own nL) (pc : Nat) {ix : Nat} {x y : Int32} (hdg : decode cc pc = .ok (.invokestatic ix, 3)) (hw : Cond.methodLink own ix Lib.Math.min.name ∈ wsL_law) (hw2 : Cond.static Lib.Math.min.name ∈ wsL_law) (hw3 : Cond.initialized "java/lang/Math" ∈ wsL_law) (hw4 : Cond.code Lib.Math.min.name Lib.Math.min.code 2 (some .int) ∈ wsL_law) (hR : 1 ≤ R.frames ∧ (st.map fun v => v.category).sum + 13 ≤ R.locals ∧ ce ≤ R.cells ∧ sl ≤ R.slots) (kk : KJ l G D R nL ce sl ws lv (pc + 3) (.int (if y < x then y else x) :: st)) : KJ l G D R nL ce sl ws lv pc (.int y :: .int x :: st) := fun H locs ls hP hD hS hl => va_mmin hC.ex hC.cd (hC.ml.trans hl.1.symm) hC.on (hC.wd _ hw) (hC.wd _ hw2) (hC.wd _ hw3) (hC.wd _ hw4) hR.1 hR.2.1 hR.2.2.1 hR.2.2.2 hdg (kk H locs ls hP hD hS hl)
end KS

/-! CONTRACTS: from a world w0 (a list of cells) to a world w1 u, with an answer v of which post v u holds -/
def MPre (D : va_G) (w0 : va_W) (av : List Value) (sz : Nat) : Array Value → State → Prop := va_Pc av (fun U => U.heap.size = sz ∧ va_P D vwCl w0 U.heap ∧ KT D U ∧ va_D (fun _ => True) w0)
def MPost {S : Type} (D : va_G) (w0 : va_W) (sz : Nat) (post : Option Value → S → Prop) (w1 : S → va_W) : Array Value → State → Outcome → State → Prop := fun _ st oc t => (∃ (v : Option Value) (u : S), oc = .returned v ∧ post v u ∧ va_P D vwCl (w1 u) t.heap ∧ va_D (va_A w0 sz) (w1 u)) ∧ va_F (va_A w0 sz) st t
def MU {S : Type} (l : Launch) (y : MethodName) (cc : ByteArray) (maxL : Nat) (ret : Option FieldType) (fr lo : Nat) (D : va_G) (av : List Value) (w0 : va_W) (post : Option Value → S → Prop) (w1 : S → va_W) (mc ms : Nat) : Prop :=
  ∀ sz : Nat, Met l y (.code y cc maxL ret :: wsL_law) ({ frames := fr, cells := mc, slots := ms, locals := lo } : Room) (MPre D w0 av sz) (MPost D w0 sz post w1) mc ms (va_A w0 sz)
def EX {S : Type} (G : KX) (D : va_G) (y : MethodName) (w0 : va_W) (post : Option Value → S → Prop) (w1 : S → va_W) (ret : Option FieldType) (mc ms : Nat) : Prop :=
  kA G = va_A w0 (ks G).heap.size ∧ kQ G = MQ (kb G) (MPost D w0 (ks G).heap.size post w1) (ka G) (ks G) mc ms (va_A w0 (ks G).heap.size) ∧ (kme G).sig.returnType = ret ∧ (kme G).locks = false ∧ (kme G).name = y.name
theorem wsL_good : ∀ w ∈ wsL_law, goodWord w = true := fun w h => List.all_eq_true.mp (show wsL_law.all goodWord = true by decide +kernel) w h
theorem gAll {w0 : Cond} (h : w0 ∈ wsL_law) : GoodIn wsL_law (w0 :: wsL_law) := fun w hw => (List.mem_cons.mp hw).elim (fun e => by subst e; exact ⟨h, good_of_word (wsL_good _ h)⟩) (fun h2 => ⟨h2, good_of_word (wsL_good _ h2)⟩)
section MUs
variable {S : Type} {l : Launch} {y : MethodName} {cc : ByteArray} {maxL : Nat} {ret : Option FieldType} {fr lo : Nat} {D : va_G} {av : List Value} {w0 : va_W} {post : Option Value → S → Prop} {w1 : S → va_W} {mc ms : Nat}
theorem MPre.blind {sz : Nat} : FrameBlind (MPre D w0 av sz) := fun _ U _ _ q => ⟨q.1, q.2.1, q.2.2.1, KT.same (u := U) rfl q.2.2.2.1, q.2.2.2.2⟩
theorem MU.enter (hy : plainName y.cls = true) (lv0 : List (Nat × Value)) (hlv : lv_args 0 av = lv0) (hle : (lg_sl av).length ≤ maxL)
    (h : ∀ G : KX, CX G D cc y.cls maxL → EX G D y w0 post w1 ret mc ms → KJ l G D ({ frames := fr, cells := mc, slots := ms, locals := lo } : Room) maxL 0 0 w0 lv0 0 []) : MU l y cc maxL ret fr lo D av w0 post w1 mc ms := by
  intro sz
  refine Met.ofW (cc := cc) (maxL := maxL) (ret := ret) hy rfl ?_
  intro p e s m args below meth c s₁ B hml hv
  obtain ⟨rfl, hsz, hP, hK, hD0⟩ := hv
  subst hsz
  have hts := atoms_spec (ws := .code y cc maxL ret :: wsL_law) B.pre
  have hts : ∀ w ∈ wsL_law, w.before av.toArray s = true := fun w h => hts w (List.mem_cons_of_mem _ h)
  have hown : s.vm.findClass y.cls = some m.cls := findClass_of_methodNamed B.named
  have hl := lv_entry av (n := maxL) hle
  rw [hlv] at hl
  rw [lg_entry_eq]
  generalize (lg_sl av ++ List.replicate (maxL - (lg_sl av).length) Slot.unset).toArray = ls at hl ⊢
  exact h (p, e, s, m, av.toArray, below, meth, c, _, va_A w0 s.heap.size) ⟨B.exec, B.bytes, hml, hown, hts, hK, fun q hq => Or.inr hq⟩ ⟨rfl, rfl, B.returns, B.notSynchronized, (name_of_methodNamed B.named B.method).1⟩ s.heap [] ls hP hD0.self va_S.rf hl
variable {G : KX} {R : Room} {own : String} {nL ce sl : Nat} {ws : va_W} {lv : List (Nat × Value)} {st : List Value}
theorem EX.end_ (hE : EX G D y w0 post w1 ret mc ms) {v : Option Value} {u : S} (hp : post v u) {H : Heap} {locs : List Loc} (hP : va_P D vwCl ws H) (hD : va_D (kA G) ws) (hS : va_S (kA G) (ks G).heap H locs) (hw : w1 u = ws) : ∀ t : State, t.heap = H → (ks G).WarmedH t.vm → MPost D w0 (ks G).heap.size post w1 (ka G) (ks G) (.returned v) t := by
  intro t ht _
  have hA := hE.1
  subst hw
  refine ⟨⟨v, u, rfl, hp, by rw [ht]; exact hP, by rw [← hA]; exact hD⟩, by rw [← hA]; exact hS.F ht⟩
theorem EX.lc (hE : EX G D y w0 post w1 ret mc ms) {H : Heap} {locs : List Loc} (hS : va_S (kA G) (ks G).heap H locs) : ∀ q ∈ locs, va_A w0 (ks G).heap.size q.base := by
  rw [← hE.1]; exact hS.2.2
theorem k_iret {ty : FieldType} (hC : CX G D cc own nL) (hE : EX G D y w0 post w1 (some ty) mc ms) (pc : Nat) {v : Int32} (u : S) (hdg : decode cc pc = .ok (.ireturn, 1)) (hn : narrow ty (.int v) = .int v) (hp : post (some (.int v)) u) (hw : w1 u = ws) (hf : ce ≤ mc ∧ sl ≤ ms) : KJ l G D R nL ce sl ws lv pc [.int v] := fun H locs ls hP hD hS hl => by
  rw [hE.2.1]
  exact W.widen hf.1 hf.2 (W.zret hC.ex hC.cd hE.2.2.1 hn (hE.end_ hp hP hD hS hw) (hE.lc hS) hdg hE.2.2.2.1)
theorem k_lret (hC : CX G D cc own nL) (hE : EX G D y w0 post w1 (some .long) mc ms) (pc : Nat) {v : Int64} (u : S) (hdg : decode cc pc = .ok (.lreturn, 1)) (hp : post (some (.long v)) u) (hw : w1 u = ws) (hf : ce ≤ mc ∧ sl ≤ ms) : KJ l G D R nL ce sl ws lv pc [.long v] := fun H locs ls hP hD hS hl => by
  rw [hE.2.1]
  exact W.widen hf.1 hf.2 (W.lret hC.ex hC.cd hE.2.2.1 (hE.end_ hp hP hD hS hw) (hE.lc hS) hdg hE.2.2.2.1)
theorem k_dret (hC : CX G D cc own nL) (hE : EX G D y w0 post w1 (some .double) mc ms) (pc : Nat) {v : UInt64} (u : S) (hdg : decode cc pc = .ok (.dreturn, 1)) (hp : post (some (.double v)) u) (hw : w1 u = ws) (hf : ce ≤ mc ∧ sl ≤ ms) : KJ l G D R nL ce sl ws lv pc [.double v] := fun H locs ls hP hD hS hl => by
  rw [hE.2.1]
  exact W.widen hf.1 hf.2 (W.dret hC.ex hC.cd hE.2.2.1 (hE.end_ hp hP hD hS hw) (hE.lc hS) hdg hE.2.2.2.1)
theorem k_aret {rt : FieldType} (hC : CX G D cc own nL) (hE : EX G D y w0 post w1 (some rt) mc ms) (pc : Nat) {a : Nat} (u : S) (hdg : decode cc pc = .ok (.areturn, 1)) (hrt : (∃ n, rt = .object n) ∨ ∃ t, rt = .array t) (hp : post (some (.ref a)) u) (hw : w1 u = ws) (hf : ce ≤ mc ∧ sl ≤ ms) : KJ l G D R nL ce sl ws lv pc [.ref a] := fun H locs ls hP hD hS hl => by
  rw [hE.2.1]
  exact W.widen hf.1 hf.2 (W.aret hC.ex hC.cd hE.2.2.1 hrt (Or.inr ⟨a, rfl⟩) (hE.end_ hp hP hD hS hw) (hE.lc hS) hdg hE.2.2.2.1)
theorem k_vret (hC : CX G D cc own nL) (hE : EX G D y w0 post w1 none mc ms) (pc : Nat) (u : S) (hdg : decode cc pc = .ok (.return_, 1)) (hp : post none u) (hw : w1 u = ws) (hf : ce ≤ mc ∧ sl ≤ ms) : KJ l G D R nL ce sl ws lv pc [] := fun H locs ls hP hD hS hl => by
  rw [hE.2.1]
  exact W.widen hf.1 hf.2 (W.vret hC.ex hC.cd hE.2.2.1 (hE.end_ hp hP hD hS hw) (hE.lc hS) hdg hE.2.2.2.1)
end MUs
/-! CALLS -/
/-- cells are replaced by their places; what comes in addition goes to the end -/
def putL : va_W → List Nat → va_W → va_W
  | ws, [], w1 => ws ++ w1
  | ws, _ :: _, [] => ws
  | ws, i :: is, c :: w1 => putL (ws.set i c) is w1
theorem putL_get : ∀ (is : List Nat) (ws w1 : va_W) (k : Nat) (q : Nat × va_E), va_nd is = true → is.length ≤ w1.length → (∀ i ∈ is, i < ws.length) → (putL ws is w1)[k]? = some q →
    (∃ j : Nat, is[j]? = some k ∧ w1[j]? = some q) ∨ (k ∉ is ∧ k < ws.length ∧ ws[k]? = some q) ∨ (∃ j : Nat, k = ws.length + j ∧ w1[is.length + j]? = some q)
  | [], ws, w1, k, q, _, _, _, h => by
    simp only [putL] at h
    by_cases hk : k < ws.length
    · rw [List.getElem?_append_left hk] at h
      exact Or.inr (Or.inl ⟨List.not_mem_nil, hk, h⟩)
    · rw [List.getElem?_append_right (by omega)] at h
      exact Or.inr (Or.inr ⟨k - ws.length, by omega, by simpa using h⟩)
  | i :: is, ws, [], k, q, _, hl, _, h => by simp at hl
  | i :: is, ws, c :: w1, k, q, hn, hl, hi, h => by
    simp only [va_nd, Bool.and_eq_true, decide_eq_true_eq] at hn
    have hii : i < ws.length := hi i List.mem_cons_self
    simp only [putL] at h
    rcases putL_get is (ws.set i c) w1 k q hn.2 (by simpa using hl) (fun j hj => by rw [List.length_set]; exact hi j (List.mem_cons_of_mem _ hj)) h with ⟨j, h1, h2⟩ | ⟨h1, h2, h3⟩ | ⟨j, h1, h2⟩
    · exact Or.inl ⟨j + 1, by simpa using h1, by simpa using h2⟩
    · rw [List.length_set] at h2
      by_cases hk : k = i
      · subst hk
        rw [List.getElem?_set_self hii] at h3
        exact Or.inl ⟨0, rfl, h3⟩
      · rw [List.getElem?_set_ne (Ne.symm hk)] at h3
        exact Or.inr (Or.inl ⟨fun hm => (List.mem_cons.mp hm).elim hk h1, h2, h3⟩)
    · rw [List.length_set] at h1
      refine Or.inr (Or.inr ⟨j, h1, ?_⟩)
      rw [List.length_cons, Nat.add_right_comm]
      simpa using h2
theorem putL_ok {A : Nat → Prop} {D : va_G} {cl : List vw_C} {ws wc w1 : va_W} {H H1 : Heap} (hP : va_P D cl ws H) (hD : va_D A ws) (is : List Nat) (hn : va_nd is = true) (hC : is.map (fun i => ws[i]?) = wc.map some) (hl : is.length ≤ w1.length)
    (hk : ∀ q : Nat, q < H.size → ¬ va_A wc H.size q → H1[q]? = H[q]?) (hF : ∀ q, va_A wc H.size q → A q) (hP1 : va_P D cl w1 H1) (hD1 : va_D (va_A wc H.size) w1) : va_P D cl (putL ws is w1) H1 ∧ va_D A (putL ws is w1) := by
  have hat : ∀ (k : Nat) (q : Nat × va_E), wc[k]? = some q → ∃ i, is[k]? = some i ∧ ws[i]? = some q := by
    intro k q hq
    have h1 : (is.map (fun i => ws[i]?))[k]? = some (some q) := by rw [hC, List.getElem?_map, hq]; rfl
    rw [List.getElem?_map] at h1
    cases hi : is[k]? with
    | none => rw [hi] at h1; cases h1
    | some i => rw [hi] at h1; exact ⟨i, rfl, Option.some.inj h1⟩
  have hin : ∀ i ∈ is, i < ws.length := by
    intro i hi
    obtain ⟨k, hk1⟩ := List.getElem?_of_mem hi
    have h1 : (is.map (fun i => ws[i]?))[k]? = some (ws[i]?) := by rw [List.getElem?_map, hk1]; rfl
    rw [hC, List.getElem?_map] at h1
    cases hw : wc[k]? with
    | none => rw [hw] at h1; cases h1
    | some q =>
      rw [hw] at h1
      exact (List.getElem?_eq_some_iff.mp (Option.some.inj h1).symm).1
  have apart : ∀ (i : Nat) (q : Nat × va_E), i ∉ is → ws[i]? = some q → q.1 < H.size ∧ ¬ va_A wc H.size q.1 := by
    intro i q hi hq
    have hl := (hP i q hq).lt
    refine ⟨hl, fun h => ?_⟩
    rcases h with ⟨k2, e, h⟩ | h
    · obtain ⟨j, h3, h4⟩ := hat k2 (q.1, e) h
      have hij := hD.1 i j q (q.1, e) hq h4 rfl
      subst hij
      exact hi (List.mem_of_getElem? h3)
    · omega
  refine ⟨fun k q h => ?_, fun i j p q hi hj hpq => ?_, fun k q h => ?_⟩
  · rcases putL_get is ws w1 k q hn hl hin h with ⟨j, -, h2⟩ | ⟨h1, -, h3⟩ | ⟨j, -, h2⟩
    · exact hP1 j q h2
    · obtain ⟨g1, g2⟩ := apart k q h1 h3
      exact (hP k q h3).kept (hk q.1 g1 g2)
    · exact hP1 _ q h2
  · rcases putL_get is ws w1 i p hn hl hin hi with ⟨a, h1, h2⟩ | ⟨h1, h1', h2⟩ | ⟨a, h1, h2⟩ <;> rcases putL_get is ws w1 j q hn hl hin hj with ⟨b, k1, k2⟩ | ⟨k1, k1', k2⟩ | ⟨b, k1, k2⟩
    · have e := hD1.1 _ _ p q h2 k2 hpq
      subst e
      exact Option.some.inj (h1.symm.trans k1)
    · exact absurd (hpq ▸ hD1.2 _ p h2) (apart j q k1 k2).2
    · have e := hD1.1 _ _ p q h2 k2 hpq
      have := (List.getElem?_eq_some_iff.mp h1).1
      omega
    · exact absurd (hpq ▸ hD1.2 _ q k2) (hpq ▸ (apart i p h1 h2).2)
    · exact hD.1 i j p q h2 k2 hpq
    · exact absurd (hpq ▸ hD1.2 _ q k2) (hpq ▸ (apart i p h1 h2).2)
    · have e := hD1.1 _ _ p q h2 k2 hpq
      have := (List.getElem?_eq_some_iff.mp k1).1
      omega
    · exact absurd (hpq ▸ hD1.2 _ p h2) (apart j q k1 k2).2
    · have e := hD1.1 _ _ p q h2 k2 hpq
      omega
  · rcases putL_get is ws w1 k q hn hl hin h with ⟨j, -, h2⟩ | ⟨h1, -, h3⟩ | ⟨j, -, h2⟩
    · exact hF _ (hD1.2 j q h2)
    · exact hD.2 k q h3
    · exact hF _ (hD1.2 _ q h2)
/-- what a call needs of the tables: instance, static, constructor -/
def CWV (own : String) (ix : Nat) (y : MethodName) (bytes : ByteArray) (maxL : Nat) (ret : Option FieldType) (n : Nat) : Prop :=
  Cond.methodLink own ix y ∈ wsL_law ∧ Cond.instanceMethod y ∈ wsL_law ∧ Cond.selects y.cls y y ∈ wsL_law ∧ Cond.initialized y.cls ∈ wsL_law ∧ Cond.code y bytes maxL ret ∈ wsL_law ∧ (y.cls ≠ "java/lang/invoke/MethodHandle" ∧ y.cls ≠ "java/lang/invoke/VarHandle" ∧ (parseMethodDescriptor y.desc).map (fun d => d.parameters.length) = some n)
def CWS (own : String) (ix : Nat) (y : MethodName) (bytes : ByteArray) (maxL : Nat) (ret : Option FieldType) (n : Nat) : Prop :=
  Cond.methodLink own ix y ∈ wsL_law ∧ Cond.static y ∈ wsL_law ∧ Cond.initialized y.cls ∈ wsL_law ∧ Cond.code y bytes maxL ret ∈ wsL_law ∧ (y.cls ≠ "java/lang/invoke/MethodHandle" ∧ y.cls ≠ "java/lang/invoke/VarHandle" ∧ (parseMethodDescriptor y.desc).map (fun d => d.parameters.length) = some n)
def CWI (own : String) (ix : Nat) (y : MethodName) (bytes : ByteArray) (maxL : Nat) (n : Nat) : Prop :=
  Cond.methodLink own ix y ∈ wsL_law ∧ Cond.instanceMethod y ∈ wsL_law ∧ Cond.initialized y.cls ∈ wsL_law ∧ Cond.code y bytes maxL none ∈ wsL_law ∧ y.name = "<init>" ∧ (y.cls ≠ "java/lang/invoke/MethodHandle" ∧ y.cls ≠ "java/lang/invoke/VarHandle" ∧ (parseMethodDescriptor y.desc).map (fun d => d.parameters.length) = some n)
section CG
variable {p : Program} {l : Launch} {e : Env} {R : Room} {s : State} {m : MethodId} {args : Array Value} {below : List Frame} {meth : Method} {c : Code} {H : Heap} {locs : List Loc} {cells slots mc ms : Nat} {Q : State → Prop} {g : JFrame} {rest : List Value} {free : Addr → Prop}
theorem va_callg {Qa : State → Outcome → State → Prop} (hr : va_Run p l e R s m args below meth c H locs cells slots mc ms g rest Qa free)
    (kk : ∀ (v : Option Value) (st₀ t : State) (H1 : Heap) (L : List Loc), st₀.heap = H → t.heap = H1 → (∀ q ∈ L, free q.base) → Qa st₀ (.returned v) t → W p l e R s m args below meth c H1 (locs ++ L) (cells + mc) (slots + ms) Q { g with pc := g.pc + 3, stack := v.toList ++ rest }) : W p l e R s m args below meth c H locs cells slots Q g := by
  intro T hT X
  obtain ⟨v, st₀, t, T', L, h0, X', hL, e1, e2, hq, stp⟩ := hr T hT X
  obtain ⟨t2, a1, b1⟩ := kk v st₀ t T'.heap L h0 e1.symm hL hq T' rfl X'
  exact ⟨t2, stp t2 a1, b1⟩
end CG
section CK
variable {S : Type} {l : Launch} {G : KX} {D : va_G} {R : Room} {cc : ByteArray} {own : String} {nL ce sl : Nat} {ws : va_W} {lv : List (Nat × Value)} {st : List Value}
variable {y : MethodName} {bytes : ByteArray} {maxL : Nat} {ret : Option FieldType} {fr lo : Nat} {w0 : va_W} {post : Option Value → S → Prop} {w1 : S → va_W} {mc ms n ix : Nat} {As : List Value}
theorem k_callK (hC : CX G D cc own nL) (pc : Nat) {a : Array Value} (is : List Nat) (hnd : va_nd is = true) (his : is.map (fun i => ws[i]?) = w0.map some) (ws' : S → va_W) (hlen : ∀ u, is.length ≤ (w1 u).length) (hws : ∀ u, putL ws is (w1 u) = ws' u)
    {H : Heap} {locs : List Loc} {ls : Array Slot} {st0 : List Value} (hP : va_P D vwCl ws H) (hD : va_D (kA G) ws) (hS : va_S (kA G) (ks G).heap H locs) (hl : lv_has ls nL lv)
    (hr : va_Run (kp G) l (ke G) R (ks G) (km G) (ka G) (kb G) (kme G) (kc G) H locs ce sl mc ms (F0 (km G) pc ls st0) st (MPost D w0 H.size post w1 a) (va_A w0 H.size))
    (kk : ∀ (v : Option Value) (u : S), post v u → KJ l G D R nL (ce + mc) (sl + ms) (ws' u) lv (pc + 3) (v.toList ++ st)) : W (kp G) l (ke G) R (ks G) (km G) (ka G) (kb G) (kme G) (kc G) H locs ce sl (kQ G) (F0 (km G) pc ls st0) := by
  refine va_callg hr (fun v st₀ t H1 L h0 h1 hL hq => ?_)
  obtain ⟨⟨v', u, hv, hp, hP1, hD1⟩, hz, hk⟩ := hq
  cases hv
  rw [h0] at hz hk
  rw [h1] at hP1 hz hk
  have hF : ∀ q, va_A w0 H.size q → kA G q := va_free hD hS hC.nw is his
  obtain ⟨hP2, hD2⟩ := putL_ok hP hD is hnd his (hlen u) hk hF hP1 hD1
  rw [hws u] at hP2 hD2
  refine kk v u hp H1 (locs ++ L) ls hP2 hD2 ⟨Nat.le_trans hS.1 hz, fun q h2 h3 => ?_, fun q hq => ?_⟩ hl
  · rw [hk q (Nat.lt_of_lt_of_le h2 hS.1) (fun z => h3 (hF q z))]
    exact hS.2.1 q h2 h3
  · rcases List.mem_append.mp hq with h | h
    · exact hS.2.2 q h
    · exact hF _ (hL q h)
theorem k_pre (hC : CX G D cc own nL) {av : List Value} (is : List Nat) (hnd : va_nd is = true) (his : is.map (fun i => ws[i]?) = w0.map some) {H : Heap} (hP : va_P D vwCl ws H) (hD : va_D (kA G) ws) : ∀ U : State, U.heap = H → (ks G).WarmedH U.vm → MPre D w0 av H.size av.toArray U := by
  intro U hU hW
  have hP0 : va_P D vwCl w0 H := by
    intro k q hq
    have h1 : (is.map (fun i => ws[i]?))[k]? = some (some q) := by rw [his, List.getElem?_map, hq]; rfl
    rw [List.getElem?_map] at h1
    cases hi : is[k]? with
    | none => rw [hi] at h1; cases h1
    | some i => rw [hi] at h1; exact hP i q (Option.some.inj h1)
  exact ⟨rfl, by rw [hU], by rw [hU]; exact hP0, hC.kt.warm hW, (hD.sub is hnd his).weaken (fun _ _ _ _ => trivial)⟩
theorem k_callV (hC : CX G D cc own nL) (pc : Nat) {b ci : Nat} {q : vw_C} {fs : List Value} (q0 : Nat) (is : List Nat) (ws' : S → va_W) (hM : MU l y bytes maxL ret fr lo D (.ref b :: As) w0 post w1 mc ms) (cw : CWV own ix y bytes maxL ret n) (hdg : decode cc pc = .ok (.invokevirtual ix, 3))
    (hR : fr + 1 ≤ R.frames ∧ 8 + (maxL + 11) + lo ≤ R.locals ∧ ce + mc ≤ R.cells ∧ sl + ms ≤ R.slots) (hn : As.length = n) (hcat : (st.map fun v => v.category).sum ≤ 8)
    (hq : ws[q0]? = some (b, .inr (ci, fs))) (hci : vwCl[ci]? = some q) (hqn : q.1 = y.cls) (hnd : va_nd is = true) (his : is.map (fun i => ws[i]?) = w0.map some) (hlen : ∀ u, is.length ≤ (w1 u).length) (hws : ∀ u, putL ws is (w1 u) = ws' u)
    (st0 : List Value) (hst : st0 = As.reverse ++ .ref b :: st) (kk : ∀ (v : Option Value) (u : S), post v u → KJ l G D R nL (ce + mc) (sl + ms) (ws' u) lv (pc + 3) (v.toList ++ st)) : KJ l G D R nL ce sl ws lv pc st0 := by
  subst hst
  intro H locs ls hP hD hS hl
  have hcw : CallW R (ks G) (ka G) own y.cls ix y bytes maxL ret (.code y bytes maxL ret :: wsL_law) ({ frames := fr, cells := mc, slots := ms, locals := lo } : Room) mc ms n := ⟨callB_of n hC.wd (gAll cw.2.2.2.2.1) rfl rfl rfl (hC.wd _ cw.2.2.2.1) (hC.wd _ cw.1) cw.2.2.2.2.2 ⟨hR.1, hR.2.1⟩, hC.wd _ cw.2.1, hC.wd _ cw.2.2.1⟩
  exact k_callK hC pc is hnd his ws' hlen hws hP hD hS hl (va_runV (As := As) (rest := st) hC.fix (hM H.size) hcw ⟨MPre.blind, by have h := va_recv hC.kk hP hci hq; rw [hqn] at h; exact h, fun U hU hW => k_pre hC is hnd his hP hD U hU hW⟩ rfl hn hl.1 rfl (lv_room hcat) hdg hR.2.2) kk
theorem k_callS (hC : CX G D cc own nL) (pc : Nat) (is : List Nat) (ws' : S → va_W) (hM : MU l y bytes maxL ret fr lo D As w0 post w1 mc ms) (cw : CWS own ix y bytes maxL ret n) (hdg : decode cc pc = .ok (.invokestatic ix, 3))
    (hR : fr + 1 ≤ R.frames ∧ 8 + (maxL + 11) + lo ≤ R.locals ∧ ce + mc ≤ R.cells ∧ sl + ms ≤ R.slots) (hn : As.length = n) (hcat : (st.map fun v => v.category).sum ≤ 8)
    (hnd : va_nd is = true) (his : is.map (fun i => ws[i]?) = w0.map some) (hlen : ∀ u, is.length ≤ (w1 u).length) (hws : ∀ u, putL ws is (w1 u) = ws' u)
    (st0 : List Value) (hst : st0 = As.reverse ++ st) (kk : ∀ (v : Option Value) (u : S), post v u → KJ l G D R nL (ce + mc) (sl + ms) (ws' u) lv (pc + 3) (v.toList ++ st)) : KJ l G D R nL ce sl ws lv pc st0 := by
  subst hst
  intro H locs ls hP hD hS hl
  have hcw : CallB R (ks G) (ka G) own ix y bytes maxL ret (.code y bytes maxL ret :: wsL_law) ({ frames := fr, cells := mc, slots := ms, locals := lo } : Room) mc ms n ∧ (Cond.static y).before (ka G) (ks G) = true := ⟨callB_of n hC.wd (gAll cw.2.2.2.1) rfl rfl rfl (hC.wd _ cw.2.2.1) (hC.wd _ cw.1) cw.2.2.2.2 ⟨hR.1, hR.2.1⟩, hC.wd _ cw.2.1⟩
  exact k_callK hC pc is hnd his ws' hlen hws hP hD hS hl (va_runS (As := As) (rest := st) hC.fix (hM H.size) hcw ⟨MPre.blind, fun U hU hW => k_pre hC is hnd his hP hD U hU hW⟩ rfl hn hl.1 rfl (lv_room hcat) hdg hR.2.2) kk
theorem k_callI (hC : CX G D cc own nL) (pc : Nat) {b : Nat} (is : List Nat) (ws' : S → va_W) (hM : MU l y bytes maxL none fr lo D (.ref b :: As) w0 post w1 mc ms) (cw : CWI own ix y bytes maxL n) (hdg : decode cc pc = .ok (.invokespecial ix, 3))
    (hR : fr + 1 ≤ R.frames ∧ 8 + (maxL + 11) + lo ≤ R.locals ∧ ce + mc ≤ R.cells ∧ sl + ms ≤ R.slots) (hn : As.length = n) (hcat : (st.map fun v => v.category).sum ≤ 8)
    (hnd : va_nd is = true) (his : is.map (fun i => ws[i]?) = w0.map some) (hlen : ∀ u, is.length ≤ (w1 u).length) (hws : ∀ u, putL ws is (w1 u) = ws' u)
    (st0 : List Value) (hst : st0 = As.reverse ++ .ref b :: st) (kk : ∀ (v : Option Value) (u : S), post v u → KJ l G D R nL (ce + mc) (sl + ms) (ws' u) lv (pc + 3) (v.toList ++ st)) : KJ l G D R nL ce sl ws lv pc st0 := by
  subst hst
  intro H locs ls hP hD hS hl
  have hcw : CallB R (ks G) (ka G) own ix y bytes maxL none (.code y bytes maxL none :: wsL_law) ({ frames := fr, cells := mc, slots := ms, locals := lo } : Room) mc ms n ∧ y.name = "<init>" ∧ (Cond.instanceMethod y).before (ka G) (ks G) = true := ⟨callB_of n hC.wd (gAll cw.2.2.2.1) rfl rfl rfl (hC.wd _ cw.2.2.1) (hC.wd _ cw.1) cw.2.2.2.2.2 ⟨hR.1, hR.2.1⟩, cw.2.2.2.2.1, hC.wd _ cw.2.1⟩
  exact k_callK hC pc is hnd his ws' hlen hws hP hD hS hl (va_runI (As := As) (rest := st) hC.fix (hM H.size) hcw ⟨MPre.blind, fun U hU hW => k_pre hC is hnd his hP hD U hU hW⟩ rfl hn hl.1 rfl (lv_room hcat) hdg hR.2.2) kk
end CK
end
