section
-- ===== PART A: goes FIRST, ahead of the names: the tables' words, and 'selects' of the private methods out of them =====
/-- a private method of a class that the tables say can be made, by its rows of tables_1 -/
def lw_okq (q : MethodName × Nat) : Prop := (q.1.cls ≠ "java/lang/invoke/MethodHandle" ∧ q.1.cls ≠ "java/lang/invoke/VarHandle") ∧ Cond.instantiable q.1.cls q.2 ∈ tables_1 ∧ Cond.privateMethod q.1 ∈ tables_1 ∧ Cond.instanceMethod q.1 ∈ tables_1
theorem lw_p0 : lw_okq (⟨"PinnedPantry$Store", "givingShelf", "()I"⟩, 13) := ⟨⟨by decide +kernel, by decide +kernel⟩, List.mem_of_getElem? (i := 23) (by decide +kernel), List.mem_of_getElem? (i := 145) (by decide +kernel), List.mem_of_getElem? (i := 146) (by decide +kernel)⟩
theorem lw_p1 : lw_okq (⟨"java/lang/Throwable", "fillInStackTrace", "(I)Ljava/lang/Throwable;"⟩, 6) := ⟨⟨by decide +kernel, by decide +kernel⟩, List.mem_of_getElem? (i := 271) (by decide +kernel), List.mem_of_getElem? (i := 269) (by decide +kernel), List.mem_of_getElem? (i := 270) (by decide +kernel)⟩
theorem lw_p2 : lw_okq (⟨"PinnedPantry$Store", "recall", "(II)V"⟩, 13) := ⟨⟨by decide +kernel, by decide +kernel⟩, List.mem_of_getElem? (i := 23) (by decide +kernel), List.mem_of_getElem? (i := 309) (by decide +kernel), List.mem_of_getElem? (i := 310) (by decide +kernel)⟩
theorem lw_p3 : lw_okq (⟨"PinnedPantry$Store", "placeNewJar", "(ILPinnedPantry$Row;)V"⟩, 13) := ⟨⟨by decide +kernel, by decide +kernel⟩, List.mem_of_getElem? (i := 23) (by decide +kernel), List.mem_of_getElem? (i := 321) (by decide +kernel), List.mem_of_getElem? (i := 322) (by decide +kernel)⟩
theorem lw_p4 : lw_okq (⟨"PinnedPantry", "requireJar", "(I)V"⟩, 2) := ⟨⟨by decide +kernel, by decide +kernel⟩, List.mem_of_getElem? (i := 15) (by decide +kernel), List.mem_of_getElem? (i := 381) (by decide +kernel), List.mem_of_getElem? (i := 382) (by decide +kernel)⟩
theorem lw_p5 : lw_okq (⟨"PinnedPantryModel", "fail", "(I)I"⟩, 5) := ⟨⟨by decide +kernel, by decide +kernel⟩, List.mem_of_getElem? (i := 501) (by decide +kernel), List.mem_of_getElem? (i := 537) (by decide +kernel), List.mem_of_getElem? (i := 538) (by decide +kernel)⟩
theorem lw_p6 : lw_okq (⟨"PinnedPantryModel", "canFetch", "(I)Z"⟩, 5) := ⟨⟨by decide +kernel, by decide +kernel⟩, List.mem_of_getElem? (i := 501) (by decide +kernel), List.mem_of_getElem? (i := 541) (by decide +kernel), List.mem_of_getElem? (i := 542) (by decide +kernel)⟩
theorem lw_p7 : lw_okq (⟨"PinnedPantryModel", "isThere", "(I)Z"⟩, 5) := ⟨⟨by decide +kernel, by decide +kernel⟩, List.mem_of_getElem? (i := 501) (by decide +kernel), List.mem_of_getElem? (i := 545) (by decide +kernel), List.mem_of_getElem? (i := 546) (by decide +kernel)⟩
theorem lw_p8 : lw_okq (⟨"PinnedPantryModel", "ja", "(II)I"⟩, 5) := ⟨⟨by decide +kernel, by decide +kernel⟩, List.mem_of_getElem? (i := 501) (by decide +kernel), List.mem_of_getElem? (i := 549) (by decide +kernel), List.mem_of_getElem? (i := 550) (by decide +kernel)⟩
theorem lw_p9 : lw_okq (⟨"PinnedPantryModel", "all", "()I"⟩, 5) := ⟨⟨by decide +kernel, by decide +kernel⟩, List.mem_of_getElem? (i := 501) (by decide +kernel), List.mem_of_getElem? (i := 553) (by decide +kernel), List.mem_of_getElem? (i := 554) (by decide +kernel)⟩
theorem lw_p10 : lw_okq (⟨"PinnedPantryModel", "many", "(I)I"⟩, 5) := ⟨⟨by decide +kernel, by decide +kernel⟩, List.mem_of_getElem? (i := 501) (by decide +kernel), List.mem_of_getElem? (i := 557) (by decide +kernel), List.mem_of_getElem? (i := 558) (by decide +kernel)⟩
theorem lw_p11 : lw_okq (⟨"PinnedPantryModel", "pinned", "()I"⟩, 5) := ⟨⟨by decide +kernel, by decide +kernel⟩, List.mem_of_getElem? (i := 501) (by decide +kernel), List.mem_of_getElem? (i := 561) (by decide +kernel), List.mem_of_getElem? (i := 562) (by decide +kernel)⟩
theorem lw_p12 : lw_okq (⟨"PinnedPantryModel", "fetched", "(I)I"⟩, 5) := ⟨⟨by decide +kernel, by decide +kernel⟩, List.mem_of_getElem? (i := 501) (by decide +kernel), List.mem_of_getElem? (i := 565) (by decide +kernel), List.mem_of_getElem? (i := 566) (by decide +kernel)⟩
theorem lw_p13 : lw_okq (⟨"PinnedPantryModel", "listOf", "(I)I"⟩, 5) := ⟨⟨by decide +kernel, by decide +kernel⟩, List.mem_of_getElem? (i := 501) (by decide +kernel), List.mem_of_getElem? (i := 569) (by decide +kernel), List.mem_of_getElem? (i := 570) (by decide +kernel)⟩
theorem lw_p14 : lw_okq (⟨"PinnedPantryModel", "listPlace", "(II)I"⟩, 5) := ⟨⟨by decide +kernel, by decide +kernel⟩, List.mem_of_getElem? (i := 501) (by decide +kernel), List.mem_of_getElem? (i := 573) (by decide +kernel), List.mem_of_getElem? (i := 574) (by decide +kernel)⟩
theorem lw_p15 : lw_okq (⟨"PinnedPantryModel", "listed", "(I)I"⟩, 5) := ⟨⟨by decide +kernel, by decide +kernel⟩, List.mem_of_getElem? (i := 501) (by decide +kernel), List.mem_of_getElem? (i := 577) (by decide +kernel), List.mem_of_getElem? (i := 578) (by decide +kernel)⟩
def lw_privs_1 : List (MethodName × Nat) := [(⟨"PinnedPantry$Store", "givingShelf", "()I"⟩, 13), (⟨"java/lang/Throwable", "fillInStackTrace", "(I)Ljava/lang/Throwable;"⟩, 6), (⟨"PinnedPantry$Store", "recall", "(II)V"⟩, 13), (⟨"PinnedPantry$Store", "placeNewJar", "(ILPinnedPantry$Row;)V"⟩, 13), (⟨"PinnedPantry", "requireJar", "(I)V"⟩, 2), (⟨"PinnedPantryModel", "fail", "(I)I"⟩, 5), (⟨"PinnedPantryModel", "canFetch", "(I)Z"⟩, 5), (⟨"PinnedPantryModel", "isThere", "(I)Z"⟩, 5), (⟨"PinnedPantryModel", "ja", "(II)I"⟩, 5), (⟨"PinnedPantryModel", "all", "()I"⟩, 5), (⟨"PinnedPantryModel", "many", "(I)I"⟩, 5), (⟨"PinnedPantryModel", "pinned", "()I"⟩, 5), (⟨"PinnedPantryModel", "fetched", "(I)I"⟩, 5), (⟨"PinnedPantryModel", "listOf", "(I)I"⟩, 5), (⟨"PinnedPantryModel", "listPlace", "(II)I"⟩, 5), (⟨"PinnedPantryModel", "listed", "(I)I"⟩, 5)]
theorem lw_r1 : ∀ q ∈ lw_privs_1, lw_okq q := List.forall_mem_cons.mpr ⟨lw_p0, List.forall_mem_cons.mpr ⟨lw_p1, List.forall_mem_cons.mpr ⟨lw_p2, List.forall_mem_cons.mpr ⟨lw_p3, List.forall_mem_cons.mpr ⟨lw_p4, List.forall_mem_cons.mpr ⟨lw_p5, List.forall_mem_cons.mpr ⟨lw_p6, List.forall_mem_cons.mpr ⟨lw_p7, List.forall_mem_cons.mpr ⟨lw_p8, List.forall_mem_cons.mpr ⟨lw_p9, List.forall_mem_cons.mpr ⟨lw_p10, List.forall_mem_cons.mpr ⟨lw_p11, List.forall_mem_cons.mpr ⟨lw_p12, List.forall_mem_cons.mpr ⟨lw_p13, List.forall_mem_cons.mpr ⟨lw_p14, List.forall_mem_cons.mpr ⟨lw_p15, fun _ h => absurd h List.not_mem_nil⟩⟩⟩⟩⟩⟩⟩⟩⟩⟩⟩⟩⟩⟩⟩⟩
theorem lw_p16 : lw_okq (⟨"PinnedPantryModel", "listedAt", "(II)I"⟩, 5) := ⟨⟨by decide +kernel, by decide +kernel⟩, List.mem_of_getElem? (i := 501) (by decide +kernel), List.mem_of_getElem? (i := 581) (by decide +kernel), List.mem_of_getElem? (i := 582) (by decide +kernel)⟩
theorem lw_p17 : lw_okq (⟨"PinnedPantryModel", "takeOff", "(II)V"⟩, 5) := ⟨⟨by decide +kernel, by decide +kernel⟩, List.mem_of_getElem? (i := 501) (by decide +kernel), List.mem_of_getElem? (i := 587) (by decide +kernel), List.mem_of_getElem? (i := 588) (by decide +kernel)⟩
theorem lw_p18 : lw_okq (⟨"PinnedPantryModel", "sweep", "()I"⟩, 5) := ⟨⟨by decide +kernel, by decide +kernel⟩, List.mem_of_getElem? (i := 501) (by decide +kernel), List.mem_of_getElem? (i := 594) (by decide +kernel), List.mem_of_getElem? (i := 595) (by decide +kernel)⟩
theorem lw_p19 : lw_okq (⟨"PinnedPantryModel", "canGive", "(I)Z"⟩, 5) := ⟨⟨by decide +kernel, by decide +kernel⟩, List.mem_of_getElem? (i := 501) (by decide +kernel), List.mem_of_getElem? (i := 598) (by decide +kernel), List.mem_of_getElem? (i := 599) (by decide +kernel)⟩
theorem lw_p20 : lw_okq (⟨"PinnedPantryModel", "kindAt", "(II)I"⟩, 5) := ⟨⟨by decide +kernel, by decide +kernel⟩, List.mem_of_getElem? (i := 501) (by decide +kernel), List.mem_of_getElem? (i := 602) (by decide +kernel), List.mem_of_getElem? (i := 603) (by decide +kernel)⟩
theorem lw_p21 : lw_okq (⟨"PinnedPantryModel", "takeOut", "(II)V"⟩, 5) := ⟨⟨by decide +kernel, by decide +kernel⟩, List.mem_of_getElem? (i := 501) (by decide +kernel), List.mem_of_getElem? (i := 606) (by decide +kernel), List.mem_of_getElem? (i := 607) (by decide +kernel)⟩
theorem lw_p22 : lw_okq (⟨"PinnedPantryModel", "putLast", "(II)V"⟩, 5) := ⟨⟨by decide +kernel, by decide +kernel⟩, List.mem_of_getElem? (i := 501) (by decide +kernel), List.mem_of_getElem? (i := 610) (by decide +kernel), List.mem_of_getElem? (i := 611) (by decide +kernel)⟩
theorem lw_p23 : lw_okq (⟨"PinnedPantryModel", "remember", "(II)V"⟩, 5) := ⟨⟨by decide +kernel, by decide +kernel⟩, List.mem_of_getElem? (i := 501) (by decide +kernel), List.mem_of_getElem? (i := 614) (by decide +kernel), List.mem_of_getElem? (i := 615) (by decide +kernel)⟩
theorem lw_p24 : lw_okq (⟨"PinnedPantryModel", "forget", "(I)V"⟩, 5) := ⟨⟨by decide +kernel, by decide +kernel⟩, List.mem_of_getElem? (i := 501) (by decide +kernel), List.mem_of_getElem? (i := 618) (by decide +kernel), List.mem_of_getElem? (i := 619) (by decide +kernel)⟩
theorem lw_p25 : lw_okq (⟨"PinnedPantryModel", "wrong", "(III)I"⟩, 5) := ⟨⟨by decide +kernel, by decide +kernel⟩, List.mem_of_getElem? (i := 501) (by decide +kernel), List.mem_of_getElem? (i := 626) (by decide +kernel), List.mem_of_getElem? (i := 627) (by decide +kernel)⟩
theorem lw_p26 : lw_okq (⟨"PinnedPantryModel", "hits", "(III)I"⟩, 5) := ⟨⟨by decide +kernel, by decide +kernel⟩, List.mem_of_getElem? (i := 501) (by decide +kernel), List.mem_of_getElem? (i := 630) (by decide +kernel), List.mem_of_getElem? (i := 631) (by decide +kernel)⟩
theorem lw_p27 : lw_okq (⟨"PinnedPantryModel", "placeOf", "(I)I"⟩, 5) := ⟨⟨by decide +kernel, by decide +kernel⟩, List.mem_of_getElem? (i := 501) (by decide +kernel), List.mem_of_getElem? (i := 646) (by decide +kernel), List.mem_of_getElem? (i := 647) (by decide +kernel)⟩
theorem lw_p28 : lw_okq (⟨"PinnedPantryModel", "place", "(I)V"⟩, 5) := ⟨⟨by decide +kernel, by decide +kernel⟩, List.mem_of_getElem? (i := 501) (by decide +kernel), List.mem_of_getElem? (i := 654) (by decide +kernel), List.mem_of_getElem? (i := 655) (by decide +kernel)⟩
theorem lw_p29 : lw_okq (⟨"PinnedPantryModel", "counted", "(I)I"⟩, 5) := ⟨⟨by decide +kernel, by decide +kernel⟩, List.mem_of_getElem? (i := 501) (by decide +kernel), List.mem_of_getElem? (i := 678) (by decide +kernel), List.mem_of_getElem? (i := 679) (by decide +kernel)⟩
theorem lw_p30 : lw_okq (⟨"PinnedPantryModel", "kept", "()[[I"⟩, 5) := ⟨⟨by decide +kernel, by decide +kernel⟩, List.mem_of_getElem? (i := 501) (by decide +kernel), List.mem_of_getElem? (i := 686) (by decide +kernel), List.mem_of_getElem? (i := 687) (by decide +kernel)⟩
theorem lw_p31 : lw_okq (⟨"PinnedPantryModel", "bringBack", "([[I)V"⟩, 5) := ⟨⟨by decide +kernel, by decide +kernel⟩, List.mem_of_getElem? (i := 501) (by decide +kernel), List.mem_of_getElem? (i := 698) (by decide +kernel), List.mem_of_getElem? (i := 699) (by decide +kernel)⟩
def lw_privs_2 : List (MethodName × Nat) := [(⟨"PinnedPantryModel", "listedAt", "(II)I"⟩, 5), (⟨"PinnedPantryModel", "takeOff", "(II)V"⟩, 5), (⟨"PinnedPantryModel", "sweep", "()I"⟩, 5), (⟨"PinnedPantryModel", "canGive", "(I)Z"⟩, 5), (⟨"PinnedPantryModel", "kindAt", "(II)I"⟩, 5), (⟨"PinnedPantryModel", "takeOut", "(II)V"⟩, 5), (⟨"PinnedPantryModel", "putLast", "(II)V"⟩, 5), (⟨"PinnedPantryModel", "remember", "(II)V"⟩, 5), (⟨"PinnedPantryModel", "forget", "(I)V"⟩, 5), (⟨"PinnedPantryModel", "wrong", "(III)I"⟩, 5), (⟨"PinnedPantryModel", "hits", "(III)I"⟩, 5), (⟨"PinnedPantryModel", "placeOf", "(I)I"⟩, 5), (⟨"PinnedPantryModel", "place", "(I)V"⟩, 5), (⟨"PinnedPantryModel", "counted", "(I)I"⟩, 5), (⟨"PinnedPantryModel", "kept", "()[[I"⟩, 5), (⟨"PinnedPantryModel", "bringBack", "([[I)V"⟩, 5)]
theorem lw_r2 : ∀ q ∈ lw_privs_2, lw_okq q := List.forall_mem_cons.mpr ⟨lw_p16, List.forall_mem_cons.mpr ⟨lw_p17, List.forall_mem_cons.mpr ⟨lw_p18, List.forall_mem_cons.mpr ⟨lw_p19, List.forall_mem_cons.mpr ⟨lw_p20, List.forall_mem_cons.mpr ⟨lw_p21, List.forall_mem_cons.mpr ⟨lw_p22, List.forall_mem_cons.mpr ⟨lw_p23, List.forall_mem_cons.mpr ⟨lw_p24, List.forall_mem_cons.mpr ⟨lw_p25, List.forall_mem_cons.mpr ⟨lw_p26, List.forall_mem_cons.mpr ⟨lw_p27, List.forall_mem_cons.mpr ⟨lw_p28, List.forall_mem_cons.mpr ⟨lw_p29, List.forall_mem_cons.mpr ⟨lw_p30, List.forall_mem_cons.mpr ⟨lw_p31, fun _ h => absurd h List.not_mem_nil⟩⟩⟩⟩⟩⟩⟩⟩⟩⟩⟩⟩⟩⟩⟩⟩
theorem lw_p32 : lw_okq (⟨"PinnedPantryModel", "told", "(I)I"⟩, 5) := ⟨⟨by decide +kernel, by decide +kernel⟩, List.mem_of_getElem? (i := 501) (by decide +kernel), List.mem_of_getElem? (i := 706) (by decide +kernel), List.mem_of_getElem? (i := 707) (by decide +kernel)⟩
def lw_privs_3 : List (MethodName × Nat) := [(⟨"PinnedPantryModel", "told", "(I)I"⟩, 5)]
theorem lw_r3 : ∀ q ∈ lw_privs_3, lw_okq q := List.forall_mem_cons.mpr ⟨lw_p32, fun _ h => absurd h List.not_mem_nil⟩
def lw_privs : List (MethodName × Nat) := lw_privs_1 ++ (lw_privs_2 ++ (lw_privs_3))
def lw_tbl : List Cond := k2_sels lw_privs ++ tables_1
theorem lw_privs_ok : ∀ q ∈ lw_privs, lw_okq q := by
  show ∀ q ∈ lw_privs_1 ++ (lw_privs_2 ++ (lw_privs_3)), lw_okq q
  exact List.forall_mem_append.mpr ⟨lw_r1, List.forall_mem_append.mpr ⟨lw_r2, lw_r3⟩⟩
/-- the streams that the claim lets the run draw from -/
abbrev lw_cs : List Choice := [Jvm.Choice.named "NaN.bits"]
theorem lw_bits : nanBits ∈ lw_cs := by first | decide | exact List.mem_cons_self | simp [lw_cs, nanBits]
-- ===== end of PART A; then your names; then what follows =====
end
section
/-! ===== BEGIN words of one list among another's, by their places ===== -/
theorem goodIn_r {big : List Cond} (ws : List Cond) (ps : List Nat) (hp : ws = ps.filterMap (fun i => big[i]?)) (h : ws.all goodWord = true) : GoodIn big ws := by
  intro w hw
  have h1 := List.all_eq_true.mp h w hw
  rw [hp] at hw
  obtain ⟨i, -, hi⟩ := List.mem_filterMap.mp hw
  have hm : w ∈ big := by first | exact List.mem_of_getElem? hi | exact List.getElem?_mem hi
  exact ⟨hm, good_of_word h1⟩
theorem goodIn_app {big a b : List Cond} (ha : GoodIn big a) (hb : GoodIn big b) : GoodIn big (a ++ b) := fun w h => (List.mem_append.mp h).elim (ha w) (hb w)
theorem goodIn_ca {big a b : List Cond} {c : Cond} (ha : GoodIn big (c :: a)) (hb : GoodIn big b) : GoodIn big (c :: (a ++ b)) := fun w h => (List.mem_cons.mp h).elim (fun e => ha w (List.mem_cons.mpr (Or.inl e))) (fun h => (List.mem_append.mp h).elim (fun h => ha w (List.mem_cons.mpr (Or.inr h))) (hb w))
theorem goodIn_sub {big ws : List Cond} (hm : ∀ w ∈ ws, w ∈ big) (h : ws.all goodWord = true) : GoodIn big ws := fun w hw => ⟨hm w hw, good_of_word (List.all_eq_true.mp h w hw)⟩
/-! ===== END ===== -/

/-! ===== BEGIN exceptions that leave a method, and their catching by the caller (launches without stack traces) ===== -/
section VXA
/-! The laws vx_back, vx_callV, vx_callS, vx_callSW, vx_throw0, vx_throwS follow proofs of the library, with one case more: JvmDerived/Free/Laws.lean (Back.of_free), Shelf42/LK1.lean (callV, callS), Shelf/KitTraced.lean (throwNew0V, throwNewS). -/
/-- where a method has thrown q: the class by its name, the cell, what was written, the world -/
def vx_T (XC : String → State → State → Prop) (st : State) (q : Addr) (t : State) (mc ms : Nat) (free : Addr → Prop) : Prop :=
  ∃ (E : String) (ce : Cell) (L : List Loc), XC E st t ∧ t.heap[q]? = some ce ∧ ce.vm = .none ∧ st.vm.findClass E = some ce.cls ∧ st.WarmedH t.vm ∧ st.sameButNew ({ t with vm := st.vm } : State) L mc ms ∧ ∀ z ∈ L, free z.base
def vx_Q (Qc : Array Value → State → Outcome → State → Prop) (XC : String → State → State → Prop) (mc ms : Nat) (free : Addr → Prop) : Array Value → State → Outcome → State → Prop := fun a st o t =>
  (Qc a st o t ∧ ∃ L, FrameEnd st o t L mc ms ∧ ∀ q ∈ L, free q.base) ∨ ∃ q, o = .threw q ∧ vx_T XC st q t mc ms free
/-- a callee that returns or throws -/
def vx_Met (l : Launch) (y : MethodName) (ws : List Cond) (rm : Room) (Pc : Array Value → State → Prop) (Qc : Array Value → State → Outcome → State → Prop) (XC : String → State → State → Prop) (mc ms : Nat) (free : Addr → Prop) : Prop :=
  MetFree l y (headSpec ws rm) Pc (fun _ _ _ _ _ => True) (vx_Q Qc XC mc ms free)
def vx_Post (XC : String → State → State → Prop) (mc ms : Nat) (free : Addr → Prop) : Pt → Array Value → Addr → Pt → Prop := fun A a q B =>
  ∃ (g : JFrame) (mk : MethodId) (t : State) (L : List Loc) (E : String) (ce : Cell), B.U.heap = t.heap ∧ B.U.vm = t.vm ∧ XC E (A.U.calling g mk a) t ∧ t.heap[q]? = some ce ∧ ce.vm = .none ∧ A.U.vm.findClass E = some ce.cls ∧ B.locs = A.locs ++ L ∧ (∀ z ∈ L, free z.base) ∧ B.cells = A.cells + mc ∧ B.slots = A.slots + ms
def vx_Back (l : Launch) (R : Room) (p : Program) (e : Env) (below : List Frame) (s : State) (sargs : Array Value) (y : MethodName) (len W9 : Nat)
    (Pre : Pt → Array Value → Prop) (Post : Pt → Array Value → Option Value → Pt → Prop) (PostX : Pt → Array Value → Addr → Pt → Prop) : Prop :=
  ∀ (m : MethodId) (meth : Method) (c : Code) (A : Pt) (g : JFrame) (ig : Instr) (mk : MethodId) (a : Array Value),
    Stand p l e R s m sargs below meth c A.U A.locs A.cells A.slots → g.method = m → g.locals.size = c.maxLocals → decode c.code g.pc = .ok (ig, len) →
    2 * g.monitorRoom + (g.stack.map fun v => v.category).sum ≤ W9 → A.U.methodNamed? y = some mk → Pre A a →
    (∃ (v : Option Value) (B : Pt), Stand p l e R s m sargs below meth c B.U B.locs B.cells B.slots ∧ Post A a v B ∧
      Steps p.tables e below (doInvoke e (A.U.setTop g) [] mk a).1 (B.U.setTop { g with pc := g.pc + len, stack := v.toList ++ g.stack })) ∨
    (∃ (q : Addr) (B : Pt), Stand p l e R s m sargs below meth c B.U B.locs B.cells B.slots ∧ PostX A a q B ∧
      Steps p.tables e below (doInvoke e (A.U.setTop g) [] mk a).1 ((B.U.setTop g).pushFrame (.throwing q)))
section Payer
variable {l : Launch} {R : Room} {p : Program} {e : Env} {below : List Frame} {s : State} {sargs : Array Value} {y : MethodName} {len W9 : Nat}
theorem vx_back {ws : List Cond} {rm : Room} {Pc : Array Value → State → Prop} {Qc : Array Value → State → Outcome → State → Prop} {XC : String → State → State → Prop} {mc ms : Nat} {free : Addr → Prop} {bytes : ByteArray} {maxL : Nat} {ret : Option FieldType}
    (hM : vx_Met l y ws rm Pc Qc XC mc ms free) (hblind : FrameBlind Pc) (hrc : rm.cells = mc) (hrs : rm.slots = ms)
    (hframes : rm.frames + 1 ≤ R.frames) (hlocals : W9 + (maxL + 11) + rm.locals ≤ R.locals)
    (hws : ∀ w ∈ ws, ∀ a' U, s.WarmedH U.vm → w.before a' U = true) (hcode : Cond.code y bytes maxL ret ∈ ws) (hinit : ∀ a' U, s.WarmedH U.vm → (Cond.initialized y.cls).before a' U = true) :
    vx_Back l R p e below s sargs y len W9 (PreOf R mc ms Pc) (PostOf Qc mc ms free) (vx_Post XC mc ms free) := by
  intro m meth c A g ig mk a X hg hsize hdg hW hn hp
  have h1 : (headSpec ws rm).pre.before a A.U = true := atoms_intro fun w hw => hws w hw _ _ X.warmed
  have h2 : (Cond.code y bytes maxL ret).before a A.U = true := hws _ hcode _ _ X.warmed
  have h3 : (Cond.initialized y.cls).before a A.U = true := hinit _ _ X.warmed
  have h4 : A.cells + (headSpec ws rm).room.cells ≤ R.cells := by rw [show (headSpec ws rm).room.cells = mc from hrc]; exact hp.1
  have h5 : A.slots + (headSpec ws rm).room.slots ≤ R.slots := by rw [show (headSpec ws rm).room.slots = ms from hrs]; exact hp.2.1
  have hPc : Pc a (A.U.calling g mk a) := hblind _ _ _ _ hp.2.2
  obtain ⟨U, Ls, c0, s0⟩ := A
  dsimp only [Pt.U, Pt.locs, Pt.cells, Pt.slots] at h1 h2 h3 h4 h5 X hn hPc ⊢
  obtain ⟨methY, cY, hmY, hcY, -, hlY, -, -, -, -⟩ := Cond.code_spec hn h2
  obtain ⟨kY, hkY, -⟩ := className_of_methodNamed hn
  have hinitY : kY.init = .initialized := Cond.initialized_spec (findClass_of_methodNamed hn) hkY h3
  have h : At U g.method c below := by rw [hg]; exact X.here
  have hlocals9 : W9 + (maxL + 11) + (headSpec ws rm).room.locals ≤ R.locals := hlocals
  have happ : (headSpec ws rm).appliesLoose y e.platform (U.calling g mk a) = true :=
    Spec.appliesLoose_calling (g := g) h hdg hn hkY hinitY
      (X.room_calling (g := g) (R' := (headSpec ws rm).room) hsize hmY hcY hframes (by rw [hlY]; omega) h4 h5) h1
  obtain ⟨mid, hmid⟩ := h.above
  have hfr : (U.setTop g).frames = (.java g :: mid) ++ below := by rw [State.frames_setTop' g h.top, hmid]; rfl
  obtain ⟨o, s₂, hsteps, -, hend, hq⟩ := Steps.callFree hM p X.admits X.cas X.clock (acts := []) hfr happ hPc trivial
  have hq' : vx_Q Qc XC mc ms free a (U.calling g mk a) o s₂ := hq
  rw [State.frames_setTop' g h.top] at hend
  obtain ⟨g₀, hg0⟩ := Option.isSome_iff_exists.mp h.top
  obtain ⟨r, hr⟩ := State.topJava?_eq_some.mp hg0
  have hr' : (({ U with heap := s₂.heap, slotsUsed := s₂.slotsUsed } : State).setVm s₂.vm).frames = .java g₀ :: r := hr
  rcases hq' with ⟨hqc, L, hfe, hL⟩ | ⟨q, rfl, E, ce, L, hx, hce, hcv, hcl, hW₂, hsm, hL⟩
  · obtain ⟨⟨v, rfl⟩, hW₂, e2, q2, q3, q4, q5, q6⟩ := id hfe
    have e3 : s₂ = ({ (U.calling g mk a).setFrames s₂.frames with heap := s₂.heap, slotsUsed := s₂.slotsUsed } : State).setVm s₂.vm := by
      have : s₂ = ({ s₂ with vm := (U.calling g mk a).vm } : State).setVm s₂.vm := rfl
      rw [e2] at this
      exact this
    obtain ⟨c₂, i₂, len₂, hc₂, hd₂, hf₂⟩ := hend
    have hW' : U.WarmedH s₂.vm := hW₂
    have hcc : c₂ = c := by
      have h1 : s₂.code? g.method = U.code? g.method := by
        rw [State.code?_eq, State.code?_eq, hW'.alike.method?]
      exact Option.some.inj (hc₂.symm.trans (h1.trans h.code))
    subst hcc
    have hlen : len₂ = len := by rw [hdg] at hd₂; cases hd₂; rfl
    subst hlen
    have hs₂ : s₂ = (({ U with heap := s₂.heap, slotsUsed := s₂.slotsUsed } : State).setVm s₂.vm).setTop { g with pc := g.pc + len₂, stack := v.toList ++ g.stack } := by
      refine e3.trans ?_
      rw [hf₂, State.calling_eq h.top, State.setFrames_setFrames, State.setTop_of_frames _ hr', hr]
      rfl
    have hsame : U.sameButNew ({ U with heap := s₂.heap, slotsUsed := s₂.slotsUsed } : State) L mc ms := by
      refine ⟨?_, q2, q3, q4, q5, q6⟩
      obtain ⟨t, ht, -⟩ := State.frames_cons hr
      show ({ U with heap := s₂.heap, slotsUsed := s₂.slotsUsed } : State) = { U.setFrames U.frames with heap := s₂.heap, slotsUsed := s₂.slotsUsed }
      rw [State.setFrames_self ht]
    subst hg
    refine Or.inl ⟨v, ⟨(({ U with heap := s₂.heap, slotsUsed := s₂.slotsUsed } : State).setVm s₂.vm), Ls ++ L, c0 + mc, s0 + ms⟩,
      ⟨X.admits, X.cas, X.clock, X.frames, X.room, X.hears, X.method, X.code, (X.here.setHeapUsed s₂.heap s₂.slotsUsed).setVm hW'.alike, X.tail, State.WarmedH.trans X.warmed hW', X.limits, X.bytes, X.same.trans (hsame.setVm s.vm)⟩,
      ⟨g, mk, s₂, L, rfl, rfl, hqc, rfl, hL, rfl, rfl⟩, ?_⟩
    show Steps p.tables e below _ ((({ U with heap := s₂.heap, slotsUsed := s₂.slotsUsed } : State).setVm s₂.vm).setTop { g with pc := g.pc + len₂, stack := v.toList ++ g.stack })
    rw [← hs₂]
    exact hsteps
  · obtain ⟨e2, q2, q3, q4, q5, q6⟩ := id hsm
    have e3 : s₂ = ({ (U.calling g mk a).setFrames s₂.frames with heap := s₂.heap, slotsUsed := s₂.slotsUsed } : State).setVm s₂.vm := by
      have : s₂ = ({ s₂ with vm := (U.calling g mk a).vm } : State).setVm s₂.vm := rfl
      rw [e2] at this
      exact this
    have hf₂ : s₂.frames = .throwing q :: .java g :: U.frames.tail := hend
    have hW' : U.WarmedH s₂.vm := hW₂
    have hs₂ : s₂ = ((({ U with heap := s₂.heap, slotsUsed := s₂.slotsUsed } : State).setVm s₂.vm).setTop g).pushFrame (.throwing q) := by
      refine e3.trans ?_
      rw [hf₂, State.calling_eq h.top, State.setFrames_setFrames, State.pushFrame, State.frames_setTop _ hr', State.setTop_of_frames _ hr', State.setFrames_setFrames, hr]
      rfl
    have hsame : U.sameButNew ({ U with heap := s₂.heap, slotsUsed := s₂.slotsUsed } : State) L mc ms := by
      refine ⟨?_, q2, q3, q4, q5, q6⟩
      obtain ⟨t, ht, -⟩ := State.frames_cons hr
      show ({ U with heap := s₂.heap, slotsUsed := s₂.slotsUsed } : State) = { U.setFrames U.frames with heap := s₂.heap, slotsUsed := s₂.slotsUsed }
      rw [State.setFrames_self ht]
    subst hg
    refine Or.inr ⟨q, ⟨(({ U with heap := s₂.heap, slotsUsed := s₂.slotsUsed } : State).setVm s₂.vm), Ls ++ L, c0 + mc, s0 + ms⟩,
      ⟨X.admits, X.cas, X.clock, X.frames, X.room, X.hears, X.method, X.code, (X.here.setHeapUsed s₂.heap s₂.slotsUsed).setVm hW'.alike, X.tail, State.WarmedH.trans X.warmed hW', X.limits, X.bytes, X.same.trans (hsame.setVm s.vm)⟩,
      ⟨g, mk, s₂, L, E, ce, rfl, rfl, hx, hce, hcv, hcl, rfl, hL, rfl, rfl⟩, ?_⟩
    show Steps p.tables e below _ (((({ U with heap := s₂.heap, slotsUsed := s₂.slotsUsed } : State).setVm s₂.vm).setTop g).pushFrame (.throwing q))
    rw [← hs₂]
    exact hsteps
end Payer
section Calls
variable {p : Program} {l : Launch} {e : Env} {R : Room} {s : State} {m : MethodId} {args : Array Value} {below : List Frame} {meth : Method} {c : Code} {T : State} {locs : List Loc} {cells slots : Nat}
theorem vx_callV (X : Stand p l e R s m args below meth c T locs cells slots) (hexec : p.tables.exec = Jvm.exec) {own C : String} {index : Nat} {y : MethodName} {bytes : ByteArray} {maxL : Nat} {ret : Option FieldType}
    (hown : s.vm.findClass own = some m.cls) (hlink : (Cond.methodLink own index y).before args s = true) (hinst : (Cond.instanceMethod y).before args s = true) (hsel : (Cond.selects C y y).before args s = true)
    (hcode : (Cond.code y bytes maxL ret).before args s = true) (hy : y.cls ≠ "java/lang/invoke/MethodHandle" ∧ y.cls ≠ "java/lang/invoke/VarHandle")
    {W9 : Nat} {Pre : Pt → Array Value → Prop} {Post : Pt → Array Value → Option Value → Pt → Prop} {PostX : Pt → Array Value → Addr → Pt → Prop} (hK : vx_Back l R p e below s args y 3 W9 Pre Post PostX)
    {b : Addr} {cellB : Cell} (hcell : T.heap[b]? = some cellB) (hobj : cellB.vm.isStatics = false) (hcls : s.vm.findClass C = some cellB.cls)
    {g : JFrame} (hg : g.method = m) (hsize : g.locals.size = c.maxLocals) {argsL rest : List Value} (hlen : ∀ sig, parseMethodDescriptor y.desc = some sig → argsL.length = sig.parameters.length)
    (hstack : g.stack = argsL.reverse ++ .ref b :: rest) (hW : 2 * g.monitorRoom + (rest.map fun v => v.category).sum ≤ W9) (hdg : decode c.code g.pc = .ok (.invokevirtual index, 3))
    (hpre : ∀ vm₁, s.WarmedH vm₁ → Pre ⟨T.setVm vm₁, locs, cells, slots⟩ (Value.ref b :: argsL).toArray) :
    (∃ (v : Option Value) (vm₁ : Vm) (B : Pt), s.WarmedH vm₁ ∧ Stand p l e R s m args below meth c B.U B.locs B.cells B.slots ∧ Post ⟨T.setVm vm₁, locs, cells, slots⟩ (Value.ref b :: argsL).toArray v B ∧
      ∀ target, Steps p.tables e below (B.U.setTop { g with pc := g.pc + 3, stack := v.toList ++ rest }) target → Steps p.tables e below (T.setTop g) target) ∨
    (∃ (q : Addr) (vm₁ : Vm) (B : Pt), s.WarmedH vm₁ ∧ Stand p l e R s m args below meth c B.U B.locs B.cells B.slots ∧ PostX ⟨T.setVm vm₁, locs, cells, slots⟩ (Value.ref b :: argsL).toArray q B ∧
      Steps p.tables e below (T.setTop g) ((B.U.setTop { g with stack := rest }).pushFrame (.throwing q))) := by
  obtain ⟨mk, methM, hnamed, hmethM, hstM, habM⟩ := Cond.instanceMethod_spec hinst
  obtain ⟨methM', cM, hmethM', -, -, -, -, -, -, hsigM⟩ := Cond.code_spec hnamed hcode
  cases hmethM.symm.trans hmethM'
  obtain ⟨c2, r2, m2, q1, q2, q3, q4, kP, hkP, hkPi⟩ := Cond.selects_spec hsel
  cases hcls.symm.trans q1
  cases (State.methodFound?_of_named hnamed hy).symm.trans q2
  cases hnamed.symm.trans q3
  have hselP : selectMethod e.platform s.vm cellB.cls mk = .method mk := by rw [Launch.admits_selectMethod X.admits]; exact q4
  obtain ⟨vm₁, X₁, hstep₁⟩ := X.invokevirtual hexec hown hlink hnamed hmethM hstM hkP hkPi hy (a := b) (cell := cellB) hcell
    (fun z h => by rw [h] at hobj; cases hobj) hselP hmethM habM hkP hkPi (g := g) hg (argsL := argsL) (rest := rest) (hlen _ hsigM) hstack hdg
  rcases hK m meth c ⟨T.setVm vm₁, locs, cells, slots⟩ { g with stack := rest } (.invokevirtual index) mk (Value.ref b :: argsL).toArray X₁ hg hsize hdg hW (X₁.named hnamed) (hpre vm₁ X₁.warmed) with ⟨v, B, X', hpost, hsteps⟩ | ⟨q, B, X', hpost, hsteps⟩
  · exact Or.inl ⟨v, vm₁, B, X₁.warmed, X', hpost, fun target h => hstep₁ _ fun acts => by rw [doInvoke_state]; exact hsteps.trans h⟩
  · exact Or.inr ⟨q, vm₁, B, X₁.warmed, X', hpost, hstep₁ _ fun acts => by rw [doInvoke_state]; exact hsteps⟩
theorem vx_callS (X : Stand p l e R s m args below meth c T locs cells slots) (hexec : p.tables.exec = Jvm.exec) {own : String} {index : Nat} {y : MethodName} {bytes : ByteArray} {maxL : Nat} {ret : Option FieldType}
    (hown : s.vm.findClass own = some m.cls) (hlink : (Cond.methodLink own index y).before args s = true) (hstat : (Cond.static y).before args s = true) (hinit : (Cond.initialized y.cls).before args s = true)
    (hcode : (Cond.code y bytes maxL ret).before args s = true) (hy : y.cls ≠ "java/lang/invoke/MethodHandle" ∧ y.cls ≠ "java/lang/invoke/VarHandle")
    {W9 : Nat} {Pre : Pt → Array Value → Prop} {Post : Pt → Array Value → Option Value → Pt → Prop} {PostX : Pt → Array Value → Addr → Pt → Prop} (hK : vx_Back l R p e below s args y 3 W9 Pre Post PostX)
    {g : JFrame} (hg : g.method = m) (hsize : g.locals.size = c.maxLocals) {argsL rest : List Value} (hlen : ∀ sig, parseMethodDescriptor y.desc = some sig → argsL.length = sig.parameters.length)
    (hstack : g.stack = argsL.reverse ++ rest) (hW : 2 * g.monitorRoom + (rest.map fun v => v.category).sum ≤ W9) (hdg : decode c.code g.pc = .ok (.invokestatic index, 3))
    (hpre : ∀ vm₁, s.WarmedH vm₁ → Pre ⟨T.setVm vm₁, locs, cells, slots⟩ argsL.toArray) :
    (∃ (v : Option Value) (vm₁ : Vm) (B : Pt), s.WarmedH vm₁ ∧ Stand p l e R s m args below meth c B.U B.locs B.cells B.slots ∧ Post ⟨T.setVm vm₁, locs, cells, slots⟩ argsL.toArray v B ∧
      ∀ target, Steps p.tables e below (B.U.setTop { g with pc := g.pc + 3, stack := v.toList ++ rest }) target → Steps p.tables e below (T.setTop g) target) ∨
    (∃ (q : Addr) (vm₁ : Vm) (B : Pt), s.WarmedH vm₁ ∧ Stand p l e R s m args below meth c B.U B.locs B.cells B.slots ∧ PostX ⟨T.setVm vm₁, locs, cells, slots⟩ argsL.toArray q B ∧
      Steps p.tables e below (T.setTop g) ((B.U.setTop { g with stack := rest }).pushFrame (.throwing q))) := by
  obtain ⟨mk, hnamed⟩ := Cond.code_named hcode
  obtain ⟨methM, cM, hmethM, -, -, -, -, -, -, hsigM⟩ := Cond.code_spec hnamed hcode
  have hstatic : methM.isStatic = true := Cond.static_spec hnamed hmethM hstat
  obtain ⟨kP, hkP, -⟩ := className_of_methodNamed hnamed
  have hinitP : kP.init = .initialized := Cond.initialized_spec (findClass_of_methodNamed hnamed) hkP hinit
  obtain ⟨vm₁, X₁, hstep₁⟩ := X.invokestatic hexec hown hlink hnamed hmethM hstatic hkP hinitP hy (g := g) hg (argsL := argsL) (rest := rest) (hlen _ hsigM) hstack hdg
  rcases hK m meth c ⟨T.setVm vm₁, locs, cells, slots⟩ { g with stack := rest } (.invokestatic index) mk argsL.toArray X₁ hg hsize hdg hW (X₁.named hnamed) (hpre vm₁ X₁.warmed) with ⟨v, B, X', hpost, hsteps⟩ | ⟨q, B, X', hpost, hsteps⟩
  · exact Or.inl ⟨v, vm₁, B, X₁.warmed, X', hpost, fun target h => hstep₁ _ fun acts => by rw [doInvoke_state]; exact hsteps.trans h⟩
  · exact Or.inr ⟨q, vm₁, B, X₁.warmed, X', hpost, hstep₁ _ fun acts => by rw [doInvoke_state]; exact hsteps⟩
end Calls
theorem vx_cls {s : State} {T : State} {vm₁ : Vm} {E : String} {k : ClassId} (hW : s.WarmedH vm₁) (h : (T.setVm vm₁).vm.findClass E = some k) : s.vm.findClass E = some k := by
  have h1 : vm₁.findClass E = some k := h
  rw [hW.alike.findClass] at h1
  exact h1
/-- the method's frame g, with q thrown over it -/
def vx_W (p : Program) (l : Launch) (e : Env) (R : Room) (s : State) (m : MethodId) (args : Array Value) (below : List Frame) (meth : Method) (c : Code) (H : Heap) (locs : List Loc) (cells slots : Nat) (Q : State → Prop) (g : JFrame) (q : Addr) : Prop :=
  ∀ T : State, T.heap = H → Stand p l e R s m args below meth c T locs cells slots → ∃ t, Steps p.tables e below ((T.setTop g).pushFrame (.throwing q)) t ∧ Q t
def vx_Run (p : Program) (l : Launch) (e : Env) (R : Room) (s : State) (m : MethodId) (args : Array Value) (below : List Frame) (meth : Method) (c : Code) (H : Heap) (locs : List Loc) (cells slots mc ms : Nat) (g : JFrame) (rest : List Value) (Qa : State → Outcome → State → Prop) (XC : String → State → State → Prop) (free : Addr → Prop) : Prop :=
  ∀ T : State, T.heap = H → Stand p l e R s m args below meth c T locs cells slots →
    (∃ (v : Option Value) (st₀ t T' : State) (L : List Loc), st₀.heap = H ∧ Stand p l e R s m args below meth c T' (locs ++ L) (cells + mc) (slots + ms) ∧ (∀ q ∈ L, free q.base) ∧ T'.heap = t.heap ∧ T'.vm = t.vm ∧ Qa st₀ (.returned v) t ∧
      Goes p e below T g T' { g with pc := g.pc + 3, stack := v.toList ++ rest }) ∨
    (∃ (q : Addr) (st₀ t T' : State) (L : List Loc) (E : String) (ce : Cell), st₀.heap = H ∧ Stand p l e R s m args below meth c T' (locs ++ L) (cells + mc) (slots + ms) ∧ (∀ z ∈ L, free z.base) ∧ T'.heap = t.heap ∧ T'.vm = t.vm ∧ XC E st₀ t ∧ t.heap[q]? = some ce ∧ ce.vm = .none ∧ s.vm.findClass E = some ce.cls ∧
      Steps p.tables e below (T.setTop g) ((T'.setTop { g with stack := rest }).pushFrame (.throwing q)))
def vx_X {S : Type} (px : S → Prop) (B : String → S → State → Prop) (A : Nat → Prop) : String → State → State → Prop := fun E st t => ∃ u : S, px u ∧ B E u t ∧ va_F A st t
section Runs
variable {p : Program} {l : Launch} {e : Env} {R : Room} {s : State} {m : MethodId} {args : Array Value} {below : List Frame} {meth : Method} {c : Code} {H : Heap} {locs : List Loc} {cells slots : Nat}
variable {y : MethodName} {bytes cc : ByteArray} {maxL nL mc ms n index : Nat} {ret : Option FieldType} {ws : List Cond} {rm : Room} {Pc : Array Value → State → Prop} {Qc : Array Value → State → Outcome → State → Prop} {XC : String → State → State → Prop} {free : Addr → Prop} {Ts : List Cond} {own C : String} {b : Addr} {As rest : List Value} {g : JFrame}
theorem vx_callBack (cb : CallB R s args own index y bytes maxL ret ws rm mc ms n) (hM : vx_Met l y ws rm Pc Qc XC mc ms free) (hbl : FrameBlind Pc) : vx_Back l R p e below s args y 3 8 (PreOf R mc ms Pc) (PostOf Qc mc ms free) (vx_Post XC mc ms free) := by
  obtain ⟨hrc, hrs, hfr, hlo, hws, hcw, -, hini, -⟩ := cb
  exact vx_back (bytes := bytes) (maxL := maxL) (ret := ret) hM hbl hrc hrs hfr hlo hws hcw (fun a' U hW => word_at hW (Or.inl (by first | rfl | simp [Cond.onTables, Cond.keeps, Cond.steady])) hini)
theorem vx_runV (S : CallFix p m c cc nL s args Ts own) (hM : vx_Met l y ws rm Pc Qc XC mc ms free) (cw : CallW R s args own C index y bytes maxL ret ws rm mc ms n) (hp : PreV s H C b Pc As)
    (hg : g.method = m) (hn : As.length = n) (hsize : g.locals.size = nL) (hstack : g.stack = As.reverse ++ .ref b :: rest) (hW : 2 * g.monitorRoom + (rest.map fun v => v.category).sum ≤ 8) (hdg : decode cc g.pc = .ok (.invokevirtual index, 3)) (hf : cells + mc ≤ R.cells ∧ slots + ms ≤ R.slots) :
    vx_Run p l e R s m args below meth c H locs cells slots mc ms g rest (Qc (Value.ref b :: As).toArray) XC free := by
  have hK : vx_Back l R p e below s args y 3 8 (PreOf R mc ms Pc) (PostOf Qc mc ms free) (vx_Post XC mc ms free) := vx_callBack cw.1 hM hp.1
  obtain ⟨⟨-, -, -, -, -, -, hcode, -, hy, hlen, hl⟩, hin, hse⟩ := cw
  obtain ⟨hx, hb, hml, ho, -⟩ := S
  obtain ⟨-, ⟨cellB, hcB, hoB, hclB⟩, hPc⟩ := hp
  intro T hT X
  rcases vx_callV X hx (C := C) (bytes := bytes) (maxL := maxL) (ret := ret) ho hl hin hse hcode hy hK (by rw [hT]; exact hcB) hoB hclB hg (hsize.trans hml.symm) (argsL := As) (rest := rest) (fun sig h => hn.trans (hlen sig h)) hstack hW (by rw [hb]; exact hdg)
    (fun vm₁ hW₁ => ⟨hf.1, hf.2, hPc (T.setVm vm₁) hT hW₁⟩) with ⟨v, vm₁, ⟨U', l2, c2, s2⟩, hW₁, X', ⟨g', mk, t, L, e1, e2, hq, h1, hL, h2, h3⟩, st⟩ | ⟨q, vm₁, ⟨U', l2, c2, s2⟩, hW₁, X', ⟨g', mk, t, L, E, ce, e1, e2, hq, hce, hcv, hcl, h1, hL, h2, h3⟩, st⟩
  · dsimp only [Pt.U, Pt.locs, Pt.cells, Pt.slots] at X' e1 e2 h1 h2 h3 st
    subst h1; subst h2; subst h3
    exact Or.inl ⟨v, (T.setVm vm₁).calling g' mk (Value.ref b :: As).toArray, t, U', L, hT, X', hL, e1, e2, hq, st⟩
  · dsimp only [Pt.U, Pt.locs, Pt.cells, Pt.slots] at X' e1 e2 h1 h2 h3 st hcl
    subst h1; subst h2; subst h3
    exact Or.inr ⟨q, (T.setVm vm₁).calling g' mk (Value.ref b :: As).toArray, t, U', L, E, ce, hT, X', hL, e1, e2, hq, hce, hcv, vx_cls hW₁ hcl, st⟩
theorem vx_runS (S : CallFix p m c cc nL s args Ts own) (hM : vx_Met l y ws rm Pc Qc XC mc ms free) (cw : CallB R s args own index y bytes maxL ret ws rm mc ms n ∧ (Cond.static y).before args s = true) (hp : PreS s H Pc As)
    (hg : g.method = m) (hn : As.length = n) (hsize : g.locals.size = nL) (hstack : g.stack = As.reverse ++ rest) (hW : 2 * g.monitorRoom + (rest.map fun v => v.category).sum ≤ 8) (hdg : decode cc g.pc = .ok (.invokestatic index, 3)) (hf : cells + mc ≤ R.cells ∧ slots + ms ≤ R.slots) :
    vx_Run p l e R s m args below meth c H locs cells slots mc ms g rest (Qc As.toArray) XC free := by
  have hK : vx_Back l R p e below s args y 3 8 (PreOf R mc ms Pc) (PostOf Qc mc ms free) (vx_Post XC mc ms free) := vx_callBack cw.1 hM hp.1
  obtain ⟨⟨-, -, -, -, -, -, hcode, hini, hy, hlen, hl⟩, hstt⟩ := cw
  obtain ⟨hx, hb, hml, ho, -⟩ := S
  intro T hT X
  rcases vx_callS X hx (bytes := bytes) (maxL := maxL) (ret := ret) ho hl hstt hini hcode hy hK hg (hsize.trans hml.symm) (argsL := As) (rest := rest) (fun sig h => hn.trans (hlen sig h)) hstack hW (by rw [hb]; exact hdg)
    (fun vm₁ hW₁ => ⟨hf.1, hf.2, hp.2 (T.setVm vm₁) hT hW₁⟩) with ⟨v, vm₁, ⟨U', l2, c2, s2⟩, hW₁, X', ⟨g', mk, t, L, e1, e2, hq, h1, hL, h2, h3⟩, st⟩ | ⟨q, vm₁, ⟨U', l2, c2, s2⟩, hW₁, X', ⟨g', mk, t, L, E, ce, e1, e2, hq, hce, hcv, hcl, h1, hL, h2, h3⟩, st⟩
  · dsimp only [Pt.U, Pt.locs, Pt.cells, Pt.slots] at X' e1 e2 h1 h2 h3 st
    subst h1; subst h2; subst h3
    exact Or.inl ⟨v, (T.setVm vm₁).calling g' mk As.toArray, t, U', L, hT, X', hL, e1, e2, hq, st⟩
  · dsimp only [Pt.U, Pt.locs, Pt.cells, Pt.slots] at X' e1 e2 h1 h2 h3 st hcl
    subst h1; subst h2; subst h3
    exact Or.inr ⟨q, (T.setVm vm₁).calling g' mk As.toArray, t, U', L, E, ce, hT, X', hL, e1, e2, hq, hce, hcv, vx_cls hW₁ hcl, st⟩
end Runs
section Rows
variable {p : Program} {l : Launch} {e : Env} {R : Room} {s : State} {m : MethodId} {args : Array Value} {below : List Frame} {meth : Method} {c : Code} {H : Heap} {locs : List Loc} {cells slots : Nat} {Q : State → Prop}
variable {mc ms : Nat} {free : Addr → Prop} {A0 A1 : Nat → Prop} {H0 : Heap} {a : Array Value} {pc : Nat} {ls : Array Slot} {st0 rest : List Value}
theorem vx_keep {st₀ t T' : State} {L : List Loc} (h0 : st₀.heap = H) (e1 : T'.heap = t.heap) (hS : va_S A0 H0 H locs) (hA : ∀ q, q < H.size → A1 q → A0 q) (hf : ∀ q, free q → A0 q) (hL : ∀ q ∈ L, free q.base) (hF : va_F A1 st₀ t) :
    H.size ≤ T'.heap.size ∧ (∀ q : Nat, q < H.size → ¬ A1 q → T'.heap[q]? = H[q]?) ∧ va_S A0 H0 T'.heap (locs ++ L) := by
  obtain ⟨hz, hk⟩ := hF
  rw [h0] at hz hk
  exact ⟨by rw [e1]; exact hz, fun q h1 h2 => by rw [e1]; exact hk q h1 h2,
    ⟨Nat.le_trans hS.1 (by rw [e1]; exact hz), fun q h1 h2 => by rw [e1, hk q (Nat.lt_of_lt_of_le h1 hS.1) (fun z => h2 (hA q (Nat.lt_of_lt_of_le h1 hS.1) z))]; exact hS.2.1 q h1 h2, fun q hq => by
      rcases List.mem_append.mp hq with h | h
      · exact hS.2.2 q h
      · exact hf _ (hL q h)⟩⟩
theorem vx_calli {S SX : Type} {post : Int32 → S → Prop} {px : SX → Prop} {B : S → State → Prop} {BX : String → SX → State → Prop} {AX : Nat → Prop} (hr : vx_Run p l e R s m args below meth c H locs cells slots mc ms (F0 m pc ls st0) rest (va_Qi post B A1 a) (vx_X px BX AX) free) (hS : va_S A0 H0 H locs) (hA : ∀ q, q < H.size → A1 q → A0 q) (hf : ∀ q, free q → A0 q) (hAX : ∀ q, q < H.size → AX q → A0 q)
    (kx : ∀ (E : String) (ce : Cell) (q9 : Addr) (u : SX) (t : State) (H1 : Heap) (locs1 : List Loc), t.heap = H1 → s.vm.Alike t.vm → px u → BX E u t → H.size ≤ H1.size → (∀ q : Nat, q < H.size → ¬ AX q → H1[q]? = H[q]?) → va_S A0 H0 H1 locs1 → H1[q9]? = some ce → ce.vm = .none → s.vm.findClass E = some ce.cls → vx_W p l e R s m args below meth c H1 locs1 (cells + mc) (slots + ms) Q (F0 m pc ls rest) q9)
    (kk : ∀ (r : Int32) (u : S) (t : State) (H1 : Heap) (locs1 : List Loc), t.heap = H1 → s.vm.Alike t.vm → post r u → B u t → H.size ≤ H1.size → (∀ q : Nat, q < H.size → ¬ A1 q → H1[q]? = H[q]?) → va_S A0 H0 H1 locs1 → W p l e R s m args below meth c H1 locs1 (cells + mc) (slots + ms) Q (F0 m (pc + 3) ls (.int r :: rest))) : W p l e R s m args below meth c H locs cells slots Q (F0 m pc ls st0) := by
  intro T hT X
  rcases hr T hT X with ⟨v, st₀, t, T', L, h0, X', hL, e1, e2, ⟨⟨r, u, hv, hp, hb⟩, hF⟩, st⟩ | ⟨q, st₀, t, T', L, E, ce, h0, X', hL, e1, e2, ⟨u, hp, hb, hF⟩, hce, hcv, hcl, st⟩
  · cases hv
    obtain ⟨k1, k2, k3⟩ := vx_keep h0 e1 hS hA hf hL hF
    obtain ⟨t2, a1, b1⟩ := kk r u t T'.heap (locs ++ L) e1.symm (by rw [← e2]; exact X'.warmed.alike) hp hb k1 k2 k3 T' rfl X'
    exact ⟨t2, st t2 a1, b1⟩
  · obtain ⟨k1, k2, k3⟩ := vx_keep h0 e1 hS hAX hf hL hF
    obtain ⟨t2, a1, b1⟩ := kx E ce q u t T'.heap (locs ++ L) e1.symm (by rw [← e2]; exact X'.warmed.alike) hp hb k1 k2 k3 (by rw [e1]; exact hce) hcv hcl T' rfl X'
    exact ⟨t2, st.trans a1, b1⟩
theorem vx_calll {S SX : Type} {post : Int64 → S → Prop} {px : SX → Prop} {B : S → State → Prop} {BX : String → SX → State → Prop} {AX : Nat → Prop} (hr : vx_Run p l e R s m args below meth c H locs cells slots mc ms (F0 m pc ls st0) rest (va_Ql post B A1 a) (vx_X px BX AX) free) (hS : va_S A0 H0 H locs) (hA : ∀ q, q < H.size → A1 q → A0 q) (hf : ∀ q, free q → A0 q) (hAX : ∀ q, q < H.size → AX q → A0 q)
    (kx : ∀ (E : String) (ce : Cell) (q9 : Addr) (u : SX) (t : State) (H1 : Heap) (locs1 : List Loc), t.heap = H1 → s.vm.Alike t.vm → px u → BX E u t → H.size ≤ H1.size → (∀ q : Nat, q < H.size → ¬ AX q → H1[q]? = H[q]?) → va_S A0 H0 H1 locs1 → H1[q9]? = some ce → ce.vm = .none → s.vm.findClass E = some ce.cls → vx_W p l e R s m args below meth c H1 locs1 (cells + mc) (slots + ms) Q (F0 m pc ls rest) q9)
    (kk : ∀ (r : Int64) (u : S) (t : State) (H1 : Heap) (locs1 : List Loc), t.heap = H1 → s.vm.Alike t.vm → post r u → B u t → H.size ≤ H1.size → (∀ q : Nat, q < H.size → ¬ A1 q → H1[q]? = H[q]?) → va_S A0 H0 H1 locs1 → W p l e R s m args below meth c H1 locs1 (cells + mc) (slots + ms) Q (F0 m (pc + 3) ls (.long r :: rest))) : W p l e R s m args below meth c H locs cells slots Q (F0 m pc ls st0) := by
  intro T hT X
  rcases hr T hT X with ⟨v, st₀, t, T', L, h0, X', hL, e1, e2, ⟨⟨r, u, hv, hp, hb⟩, hF⟩, st⟩ | ⟨q, st₀, t, T', L, E, ce, h0, X', hL, e1, e2, ⟨u, hp, hb, hF⟩, hce, hcv, hcl, st⟩
  · cases hv
    obtain ⟨k1, k2, k3⟩ := vx_keep h0 e1 hS hA hf hL hF
    obtain ⟨t2, a1, b1⟩ := kk r u t T'.heap (locs ++ L) e1.symm (by rw [← e2]; exact X'.warmed.alike) hp hb k1 k2 k3 T' rfl X'
    exact ⟨t2, st t2 a1, b1⟩
  · obtain ⟨k1, k2, k3⟩ := vx_keep h0 e1 hS hAX hf hL hF
    obtain ⟨t2, a1, b1⟩ := kx E ce q u t T'.heap (locs ++ L) e1.symm (by rw [← e2]; exact X'.warmed.alike) hp hb k1 k2 k3 (by rw [e1]; exact hce) hcv hcl T' rfl X'
    exact ⟨t2, st.trans a1, b1⟩
theorem vx_callf {S SX : Type} {post : UInt32 → S → Prop} {px : SX → Prop} {B : S → State → Prop} {BX : String → SX → State → Prop} {AX : Nat → Prop} (hr : vx_Run p l e R s m args below meth c H locs cells slots mc ms (F0 m pc ls st0) rest (va_Qf post B A1 a) (vx_X px BX AX) free) (hS : va_S A0 H0 H locs) (hA : ∀ q, q < H.size → A1 q → A0 q) (hf : ∀ q, free q → A0 q) (hAX : ∀ q, q < H.size → AX q → A0 q)
    (kx : ∀ (E : String) (ce : Cell) (q9 : Addr) (u : SX) (t : State) (H1 : Heap) (locs1 : List Loc), t.heap = H1 → s.vm.Alike t.vm → px u → BX E u t → H.size ≤ H1.size → (∀ q : Nat, q < H.size → ¬ AX q → H1[q]? = H[q]?) → va_S A0 H0 H1 locs1 → H1[q9]? = some ce → ce.vm = .none → s.vm.findClass E = some ce.cls → vx_W p l e R s m args below meth c H1 locs1 (cells + mc) (slots + ms) Q (F0 m pc ls rest) q9)
    (kk : ∀ (r : UInt32) (u : S) (t : State) (H1 : Heap) (locs1 : List Loc), t.heap = H1 → s.vm.Alike t.vm → post r u → B u t → H.size ≤ H1.size → (∀ q : Nat, q < H.size → ¬ A1 q → H1[q]? = H[q]?) → va_S A0 H0 H1 locs1 → W p l e R s m args below meth c H1 locs1 (cells + mc) (slots + ms) Q (F0 m (pc + 3) ls (.float r :: rest))) : W p l e R s m args below meth c H locs cells slots Q (F0 m pc ls st0) := by
  intro T hT X
  rcases hr T hT X with ⟨v, st₀, t, T', L, h0, X', hL, e1, e2, ⟨⟨r, u, hv, hp, hb⟩, hF⟩, st⟩ | ⟨q, st₀, t, T', L, E, ce, h0, X', hL, e1, e2, ⟨u, hp, hb, hF⟩, hce, hcv, hcl, st⟩
  · cases hv
    obtain ⟨k1, k2, k3⟩ := vx_keep h0 e1 hS hA hf hL hF
    obtain ⟨t2, a1, b1⟩ := kk r u t T'.heap (locs ++ L) e1.symm (by rw [← e2]; exact X'.warmed.alike) hp hb k1 k2 k3 T' rfl X'
    exact ⟨t2, st t2 a1, b1⟩
  · obtain ⟨k1, k2, k3⟩ := vx_keep h0 e1 hS hAX hf hL hF
    obtain ⟨t2, a1, b1⟩ := kx E ce q u t T'.heap (locs ++ L) e1.symm (by rw [← e2]; exact X'.warmed.alike) hp hb k1 k2 k3 (by rw [e1]; exact hce) hcv hcl T' rfl X'
    exact ⟨t2, st.trans a1, b1⟩
theorem vx_calld {S SX : Type} {post : UInt64 → S → Prop} {px : SX → Prop} {B : S → State → Prop} {BX : String → SX → State → Prop} {AX : Nat → Prop} (hr : vx_Run p l e R s m args below meth c H locs cells slots mc ms (F0 m pc ls st0) rest (va_Qd post B A1 a) (vx_X px BX AX) free) (hS : va_S A0 H0 H locs) (hA : ∀ q, q < H.size → A1 q → A0 q) (hf : ∀ q, free q → A0 q) (hAX : ∀ q, q < H.size → AX q → A0 q)
    (kx : ∀ (E : String) (ce : Cell) (q9 : Addr) (u : SX) (t : State) (H1 : Heap) (locs1 : List Loc), t.heap = H1 → s.vm.Alike t.vm → px u → BX E u t → H.size ≤ H1.size → (∀ q : Nat, q < H.size → ¬ AX q → H1[q]? = H[q]?) → va_S A0 H0 H1 locs1 → H1[q9]? = some ce → ce.vm = .none → s.vm.findClass E = some ce.cls → vx_W p l e R s m args below meth c H1 locs1 (cells + mc) (slots + ms) Q (F0 m pc ls rest) q9)
    (kk : ∀ (r : UInt64) (u : S) (t : State) (H1 : Heap) (locs1 : List Loc), t.heap = H1 → s.vm.Alike t.vm → post r u → B u t → H.size ≤ H1.size → (∀ q : Nat, q < H.size → ¬ A1 q → H1[q]? = H[q]?) → va_S A0 H0 H1 locs1 → W p l e R s m args below meth c H1 locs1 (cells + mc) (slots + ms) Q (F0 m (pc + 3) ls (.double r :: rest))) : W p l e R s m args below meth c H locs cells slots Q (F0 m pc ls st0) := by
  intro T hT X
  rcases hr T hT X with ⟨v, st₀, t, T', L, h0, X', hL, e1, e2, ⟨⟨r, u, hv, hp, hb⟩, hF⟩, st⟩ | ⟨q, st₀, t, T', L, E, ce, h0, X', hL, e1, e2, ⟨u, hp, hb, hF⟩, hce, hcv, hcl, st⟩
  · cases hv
    obtain ⟨k1, k2, k3⟩ := vx_keep h0 e1 hS hA hf hL hF
    obtain ⟨t2, a1, b1⟩ := kk r u t T'.heap (locs ++ L) e1.symm (by rw [← e2]; exact X'.warmed.alike) hp hb k1 k2 k3 T' rfl X'
    exact ⟨t2, st t2 a1, b1⟩
  · obtain ⟨k1, k2, k3⟩ := vx_keep h0 e1 hS hAX hf hL hF
    obtain ⟨t2, a1, b1⟩ := kx E ce q u t T'.heap (locs ++ L) e1.symm (by rw [← e2]; exact X'.warmed.alike) hp hb k1 k2 k3 (by rw [e1]; exact hce) hcv hcl T' rfl X'
    exact ⟨t2, st.trans a1, b1⟩
theorem vx_callv {S SX : Type} {post : S → Prop} {px : SX → Prop} {B : S → State → Prop} {BX : String → SX → State → Prop} {AX : Nat → Prop} (hr : vx_Run p l e R s m args below meth c H locs cells slots mc ms (F0 m pc ls st0) rest (va_Qv post B A1 a) (vx_X px BX AX) free) (hS : va_S A0 H0 H locs) (hA : ∀ q, q < H.size → A1 q → A0 q) (hf : ∀ q, free q → A0 q) (hAX : ∀ q, q < H.size → AX q → A0 q)
    (kx : ∀ (E : String) (ce : Cell) (q9 : Addr) (u : SX) (t : State) (H1 : Heap) (locs1 : List Loc), t.heap = H1 → s.vm.Alike t.vm → px u → BX E u t → H.size ≤ H1.size → (∀ q : Nat, q < H.size → ¬ AX q → H1[q]? = H[q]?) → va_S A0 H0 H1 locs1 → H1[q9]? = some ce → ce.vm = .none → s.vm.findClass E = some ce.cls → vx_W p l e R s m args below meth c H1 locs1 (cells + mc) (slots + ms) Q (F0 m pc ls rest) q9)
    (kk : ∀ (u : S) (t : State) (H1 : Heap) (locs1 : List Loc), t.heap = H1 → s.vm.Alike t.vm → post u → B u t → H.size ≤ H1.size → (∀ q : Nat, q < H.size → ¬ A1 q → H1[q]? = H[q]?) → va_S A0 H0 H1 locs1 → W p l e R s m args below meth c H1 locs1 (cells + mc) (slots + ms) Q (F0 m (pc + 3) ls (rest))) : W p l e R s m args below meth c H locs cells slots Q (F0 m pc ls st0) := by
  intro T hT X
  rcases hr T hT X with ⟨v, st₀, t, T', L, h0, X', hL, e1, e2, ⟨⟨u, hv, hp, hb⟩, hF⟩, st⟩ | ⟨q, st₀, t, T', L, E, ce, h0, X', hL, e1, e2, ⟨u, hp, hb, hF⟩, hce, hcv, hcl, st⟩
  · cases hv
    obtain ⟨k1, k2, k3⟩ := vx_keep h0 e1 hS hA hf hL hF
    obtain ⟨t2, a1, b1⟩ := kk u t T'.heap (locs ++ L) e1.symm (by rw [← e2]; exact X'.warmed.alike) hp hb k1 k2 k3 T' rfl X'
    exact ⟨t2, st t2 a1, b1⟩
  · obtain ⟨k1, k2, k3⟩ := vx_keep h0 e1 hS hAX hf hL hF
    obtain ⟨t2, a1, b1⟩ := kx E ce q u t T'.heap (locs ++ L) e1.symm (by rw [← e2]; exact X'.warmed.alike) hp hb k1 k2 k3 (by rw [e1]; exact hce) hcv hcl T' rfl X'
    exact ⟨t2, st.trans a1, b1⟩
/-- caught by the row x of this method's table; the rows ahead don't take it -/
theorem vx_catch {own name : String} {E : String} {ce : Cell} {q : Addr} (hown : s.vm.findClass own = some m.cls) (pre : List ExceptionTableEntry) (x : ExceptionTableEntry) (suf : List ExceptionTableEntry) (hsplit : c.exceptionTable.toList = pre ++ x :: suf)
    (hpass : ∀ z ∈ pre, covers z pc = false ∨ (z.catchType ≠ 0 ∧ ∃ nm : String, (Cond.classLink own z.catchType nm).before args s = true ∧ va_Nc E nm s)) (hx : covers x pc = true) (h0 : x.catchType ≠ 0)
    (hlink : (Cond.classLink own x.catchType name).before args s = true) (hcast : (Cond.castable E name).before args s = true) (hcell : H[q]? = some ce) (hv : ce.vm = .none) (hcl : s.vm.findClass E = some ce.cls)
    (kk : W p l e R s m args below meth c H locs cells slots Q (F0 m x.handlerPc ls [.ref q])) : vx_W p l e R s m args below meth c H locs cells slots Q (F0 m pc ls rest) q := by
  intro T hT X
  have hpl : e.platform.magicAccessors = ({} : Platform).magicAccessors := by rw [X.admits.platform]
  obtain ⟨c3, c4, hc3, hc4, hasg⟩ := Cond.castable_spec hcast
  cases Option.some.inj (hc3.symm.trans hcl)
  obtain ⟨c5, hc5, hcl5⟩ := Cond.classLink_spec hown hlink e.platform hpl
  cases Option.some.inj (hc4.symm.trans hc5)
  obtain ⟨vm', X', st⟩ := X.thenCaughtThrough q (g := F0 m pc ls rest) rfl (Steps.refl _) (by rw [hT]; exact hcell) (by rw [hv]; rfl) (by obtain ⟨k9, h9, -⟩ := Vm.findClass_spec hcl; exact ⟨k9, h9⟩) pre x suf hsplit
    (fun z hz => by
      rcases hpass z hz with h | ⟨hz0, nm, hl1, hn1⟩
      · exact Or.inl h
      · obtain ⟨c6, hc6, hcl6⟩ := Cond.classLink_spec hown hl1 e.platform hpl
        obtain ⟨a8, b8, h1, h2, h3⟩ := hn1
        cases Option.some.inj (h1.symm.trans hcl)
        cases Option.some.inj (h2.symm.trans hc6)
        exact Or.inr ⟨hz0, _, hcl6, h3⟩) hx (Or.inr ⟨h0, c4, hcl5, hasg⟩)
  obtain ⟨t, a1, b1⟩ := kk (T.setVm vm') hT X'
  exact ⟨t, st.trans a1, b1⟩
end Rows
section Ends
variable {p : Program} {l : Launch} {e : Env} {R : Room} {s : State} {m : MethodId} {args : Array Value} {below : List Frame} {meth : Method} {c : Code} {H : Heap} {locs : List Loc} {cells slots : Nat} {Q : State → Prop}
variable {mc ms : Nat} {free : Addr → Prop} {A0 A1 : Nat → Prop} {H0 : Heap} {a : Array Value} {ls : Array Slot} {st0 rest : List Value}
variable {Qc : Array Value → State → Outcome → State → Prop} {XC : String → State → State → Prop}
/-- what a body that may throw owes at its end -/
def vx_MQ (below : List Frame) (Qc : Array Value → State → Outcome → State → Prop) (XC : String → State → State → Prop) (a : Array Value) (s : State) (mc ms : Nat) (free : Addr → Prop) : State → Prop := fun t =>
  ∃ o, t.status = .running ∧ Ended t below o ∧ vx_Q Qc XC mc ms free a s o t
theorem vx_ret {g : JFrame} {mc ms : Nat} (k : W p l e R s m args below meth c H locs cells slots (MQ below Qc args s mc ms free) g) : W p l e R s m args below meth c H locs cells slots (vx_MQ below Qc XC args s mc ms free) g := by
  intro T hT X
  obtain ⟨t, a1, o, b1, b2, b3, b4⟩ := k T hT X
  exact ⟨t, a1, o, b1, b2, Or.inl ⟨b3, b4⟩⟩
/-- not caught here: it goes on to the caller -/
theorem vx_widen {g : JFrame} {q : Addr} {k n : Nat} (h1 : cells ≤ k) (h2 : slots ≤ n) (kk : vx_W p l e R s m args below meth c H locs k n Q g q) : vx_W p l e R s m args below meth c H locs cells slots Q g q := fun T hT X => kk T hT (stand_widen X h1 h2)
theorem vx_out {pc : Nat} {E : String} {ce : Cell} {q : Addr} {mc ms : Nat} (hout : ∀ x ∈ c.exceptionTable.toList, covers x pc = false) (hlocks : meth.locks = false) (hcell : H[q]? = some ce) (hv : ce.vm = .none) (hcl : s.vm.findClass E = some ce.cls)
    (hx : ∀ t : State, t.heap = H → s.vm.Alike t.vm → XC E s t) (hf : ∀ z ∈ locs, free z.base) (hc : cells ≤ mc) (hs : slots ≤ ms) :
    vx_W p l e R s m args below meth c H locs cells slots (vx_MQ below Qc XC args s mc ms free) (F0 m pc ls rest) q := by
  intro T hT X
  obtain ⟨st1, hrun, hend, hW, hsm⟩ := X.leaveThrown q (g := F0 m pc ls rest) rfl rfl rfl hout hlocks
  have hcell9 : (T.setFrames (.throwing q :: below)).heap[q]? = some ce := by
    show T.heap[q]? = some ce
    rw [hT]; exact hcell
  exact ⟨_, st1, .threw q, hrun, hend, Or.inr ⟨q, rfl, E, ce, locs, hx _ hT hW.alike, hcell9, hv, hcl, hW, hsm.mono hc hs, hf⟩⟩
theorem vx_frame {U : State} {k n : Nat} (h : s.sameButNew ({ U with vm := s.vm } : State) locs k n) : s.heap.size ≤ U.heap.size ∧ ∀ q : Nat, q < s.heap.size → (∀ z ∈ locs, z.base ≠ q) → U.heap[q]? = s.heap[q]? := by
  obtain ⟨-, h2, -, -, -, h6⟩ := h
  refine ⟨h2, fun q hq hz => ?_⟩
  obtain ⟨c9, e1, e2, e3, e4⟩ := h6 q _ (Array.getElem?_eq_getElem hq)
  have hs : c9.slots = (s.heap[q]).slots := Array.ext_getElem? fun i => e4 i fun hm => hz _ hm rfl
  have h9 : c9 = s.heap[q] := by
    rw [hs] at e2
    exact e2
  have e5 : U.heap[q]? = some c9 := e1
  rw [e5, h9, Array.getElem?_eq_getElem hq]
/-- the words of a throw but the four that speak of the heap -/
def vx_no (w : Cond) : Bool := decide (w ≠ .isRef (.static Bundle.tN "UNASSIGNED_STACK" Bundle.steD)) && decide (w ≠ .isRef (.static Bundle.tN "SUPPRESSED_SENTINEL" Bundle.listD)) && decide (w ≠ .laysStatic Bundle.tN "UNASSIGNED_STACK" Bundle.steD) && decide (w ≠ .laysStatic Bundle.tN "SUPPRESSED_SENTINEL" Bundle.listD)
def vx_at0 (own : String) (ic : Nat) (X : String) (names : List String) : List Cond := (Bundle.ownAtoms0 own ic X names).filter vx_no
def vx_atS (own : String) (ic : Nat) (X : String) (names : List String) : List Cond := (Bundle.ownAtoms own ic X names).filter vx_no
/-- a word that the tables alone decide, or a good one -/
def vx_ot (w : Cond) : Bool := w.onTables || goodWord w
theorem vx_ot_at {args a' : Array Value} {s U : State} {w : Cond} (hW : s.WarmedH U.vm) (hvm : s.vm = U.vm) (hg : vx_ot w = true) (h : w.before args s = true) : w.before a' U = true := by
  simp only [vx_ot, Bool.or_eq_true] at hg
  rcases hg with hg | hg
  · exact va_tabs hg hvm h
  · exact word_at hW (good_of_word hg) h
/-- a list's words: the good ones out of the method's own list, the others by premises of their own -/
theorem vx_hat {args : Array Value} {s : State} {L B : List Cond} (h1 : ∀ w ∈ L.filter goodWord, w.before args s = true) (h2 : ∀ w ∈ L.filter (fun w => !goodWord w), w ∈ B) (h3 : ∀ w ∈ B, w.before args s = true) : ∀ w ∈ L, w.before args s = true := by
  intro w hw
  by_cases g : goodWord w = true
  · exact h1 w (List.mem_filter.mpr ⟨hw, g⟩)
  · refine h3 w (h2 w (List.mem_filter.mpr ⟨hw, ?_⟩))
    show (!goodWord w) = true
    cases hgw : goodWord w
    · rfl
    · exact absurd hgw g
theorem vx_c {args : Array Value} {s : State} {w : Cond} {B : List Cond} (h : w.before args s = true) (t : ∀ w ∈ B, w.before args s = true) : ∀ w' ∈ w :: B, w'.before args s = true := fun w' h' => (List.mem_cons.mp h').elim (fun e => by rw [e]; exact h) (t w')
theorem vx_n {args : Array Value} {s : State} : ∀ w ∈ ([] : List Cond), w.before args s = true := fun _ h => nomatch h
theorem vx_own {args : Array Value} {s : State} {L : List Cond} (h1 : ∀ w ∈ L.filter vx_no, w.before args s = true)
    (hU : (Cond.isRef (.static Bundle.tN "UNASSIGNED_STACK" Bundle.steD)).before args s = true) (hN : (Cond.isRef (.static Bundle.tN "SUPPRESSED_SENTINEL" Bundle.listD)).before args s = true)
    (lU : (Cond.laysStatic Bundle.tN "UNASSIGNED_STACK" Bundle.steD).before args s = true) (lN : (Cond.laysStatic Bundle.tN "SUPPRESSED_SENTINEL" Bundle.listD).before args s = true) : ∀ w ∈ L, w.before args s = true := by
  intro w hw
  by_cases e1 : w = .isRef (.static Bundle.tN "UNASSIGNED_STACK" Bundle.steD)
  · rw [e1]; exact hU
  · by_cases e2 : w = .isRef (.static Bundle.tN "SUPPRESSED_SENTINEL" Bundle.listD)
    · rw [e2]; exact hN
    · by_cases e3 : w = .laysStatic Bundle.tN "UNASSIGNED_STACK" Bundle.steD
      · rw [e3]; exact lU
      · by_cases e4 : w = .laysStatic Bundle.tN "SUPPRESSED_SENTINEL" Bundle.listD
        · rw [e4]; exact lN
        · exact h1 w (List.mem_filter.mpr ⟨hw, by unfold vx_no; rw [decide_eq_true e1, decide_eq_true e2, decide_eq_true e3, decide_eq_true e4]; rfl⟩)
/-- where a static field lies, its class's statics cell in H -/
def vx_L (C n d : String) (A : Nat → Prop) (U : State) (H : Heap) : Prop := ∃ (c : ClassId) (k : Class) (i : Nat) (f : Field) (a : Nat) (cell : Cell), U.vm.findClass C = some c ∧ U.fieldFound? C n d = some (c, k, i, f) ∧ f.isStatic = true ∧ k.statics = some a ∧ H[a]? = some cell ∧ cell.vm.isStatics = true ∧ cell.cls = c ∧ f.slot < cell.slots.size ∧ k.staticTypes[f.slot]? = some f.type ∧ ¬ A a
theorem vx_L.moved {C n d : String} {A : Nat → Prop} {u U : State} {H : Heap} (hvm : u.vm.Alike U.vm) (h : vx_L C n d A u H) : vx_L C n d A U H := by
  obtain ⟨c, k, i, f, a, cell, h1, h2, h3, h4, h5, h6, h7, h8, h9, h10⟩ := h
  obtain ⟨k', hi', he⟩ := State.fieldFound?_setVm hvm h2
  exact ⟨c, k', i, f, a, cell, by rw [hvm.findClass]; exact h1, hi', h3, by rw [he]; exact h4, h5, h6, h7, h8, by rw [he]; exact h9, h10⟩
theorem vx_L.kept {C n d : String} {A : Nat → Prop} {U : State} {H H1 : Heap} (h : vx_L C n d A U H) (hq : ∀ a : Nat, a < H.size → ¬ A a → H1[a]? = H[a]?) : vx_L C n d A U H1 := by
  obtain ⟨c, k, i, f, a, cell, h1, h2, h3, h4, h5, h6, h7, h8, h9, h10⟩ := h
  exact ⟨c, k, i, f, a, cell, h1, h2, h3, h4, by rw [hq a (Array.getElem?_eq_some_iff.mp h5).1 h10]; exact h5, h6, h7, h8, h9, h10⟩
theorem vx_L.narrow {C n d : String} {A B : Nat → Prop} {U : State} {H : Heap} (h : vx_L C n d A U H) (hAB : ∀ q, B q → A q) : vx_L C n d B U H := by
  obtain ⟨c, k, i, f, a, cell, h1, h2, h3, h4, h5, h6, h7, h8, h9, h10⟩ := h
  exact ⟨c, k, i, f, a, cell, h1, h2, h3, h4, h5, h6, h7, h8, h9, fun z => h10 (hAB _ z)⟩
theorem vx_L.word {C n d : String} {A : Nat → Prop} {s : State} {args : Array Value} (h : vx_L C n d A s s.heap) : (Cond.laysStatic C n d).before args s = true := by
  obtain ⟨c, k, i, f, a, cell, h1, h2, h3, h4, h5, h6, h7, h8, h9, -⟩ := h
  show (Cond.laysStatic C n d).holds args s none s [] = true
  exact Cond.laysStatic_of h1 h2 h3 h4 h5 h6 h7 h8 h9
/-- .. and what it holds: null or some reference -/
def vx_Zq (C n d : String) (A : Nat → Prop) (U : State) (H : Heap) : Prop := va_Zq C n d A U H ∧ vx_L C n d A U H
theorem vx_Zq.moved {C n d : String} {A : Nat → Prop} {u U : State} {H : Heap} (hvm : u.vm.Alike U.vm) (h : vx_Zq C n d A u H) : vx_Zq C n d A U H := ⟨va_Zq.moved hvm h.1, vx_L.moved hvm h.2⟩
theorem vx_Zq.kept {C n d : String} {A : Nat → Prop} {U : State} {H H1 : Heap} (h : vx_Zq C n d A U H) (hq : ∀ a : Nat, a < H.size → ¬ A a → H1[a]? = H[a]?) : vx_Zq C n d A U H1 := ⟨va_Zq.kept h.1 hq, vx_L.kept h.2 hq⟩
theorem vx_Zq.narrow {C n d : String} {A B : Nat → Prop} {U : State} {H : Heap} (h : vx_Zq C n d A U H) (hAB : ∀ q, B q → A q) : vx_Zq C n d B U H := ⟨va_Zq.narrow h.1 hAB, vx_L.narrow h.2 hAB⟩
theorem vx_Zqof {args : Array Value} {s : State} {C n d : String} {A : Nat → Prop} (hl : (Cond.laysStatic C n d).before args s = true) (hini : (Cond.initialized C).before args s = true) (h : (Cond.isRef (.static C n d)).before args s = true) (hA : ∀ a : Nat, a < s.heap.size → ¬ A a) : vx_Zq C n d A s s.heap := by
  refine ⟨va_Zqof hl hini h hA, ?_⟩
  obtain ⟨c, k, i, f, a, cell, h1, h2, h3, h4, h5, h6, h7, h8, h9⟩ := Cond.laysStatic_spec hl
  exact ⟨c, k, i, f, a, cell, h1, h2, h3, h4, h5, h6, h7, h8, h9, hA a (Array.getElem?_eq_some_iff.mp h5).1⟩
theorem vx_isRef {C n d : String} {v : Value} {A : Nat → Prop} {s : State} {args : Array Value} (h : va_Z C n d v A s s.heap) (hv : v.isRef = true) : (Cond.isRef (.static C n d)).before args s = true := by
  obtain ⟨cf, kf, fi, f, a, cell, h1, h2, h3, h4, h5, h6, h7, -⟩ := h
  have he : (Term.static C n d).eval args s none [] s = some v := by
    simp [Term.eval, State.fieldNamed?, h1, h2, h4, h5, h6, h7]
  simp only [Cond.before, Cond.holds, Cond.value, he]
  cases v <;> simp_all [Value.isRef]
theorem vx_isRefq {C n d : String} {A : Nat → Prop} {s : State} {args : Array Value} (h : va_Zq C n d A s s.heap) : (Cond.isRef (.static C n d)).before args s = true := by
  rcases h with h | ⟨t, h⟩
  · exact vx_isRef h rfl
  · exact vx_isRef h rfl
/-- the same frame, seen from here: as if the method were called anew in this heap -/
theorem vx_rebase {T : State} (X : Stand p l e R s m args below meth c T locs cells slots) {R' : Room} (hf : R'.frames ≤ R.frames) (hl : R'.locals ≤ R.locals) (hc : cells + R'.cells ≤ R.cells) (hs : slots + R'.slots ≤ R.slots) :
    Stand p l e R' ((T.setVm s.vm).setFrames (.invoking m args :: below)) m args below meth c T [] 0 0 := by
  have htop : (T.setVm s.vm).topJava?.isSome := X.here.top
  have hF : ((T.setVm s.vm).setFrames (.invoking m args :: below)).frames = .invoking m args :: below := State.frames_setFrames _ (State.cur_lt_of_top htop)
  obtain ⟨g₀, hg0⟩ := Option.isSome_iff_exists.mp htop
  obtain ⟨r, hr⟩ := State.topJava?_eq_some.mp hg0
  have hl9 : e.platform.stackLimits (T.setVm s.vm).me = e.platform.stackLimits s.me := X.limits
  have hb9 : (T.setVm s.vm).me.stackBytes = s.me.stackBytes := X.bytes
  refine ⟨X.admits, X.cas, X.clock, hF, ?_, X.hears, X.method, X.code, X.here, X.tail, X.warmed, ?_, ?_, ?_⟩
  · have h := X.room
    have hU : ((T.setVm s.vm).setFrames (.invoking m args :: below)).localsInUse = s.localsInUse := by
      rw [State.localsInUse_invoking hF (meth := meth) (c := c) X.method X.code, State.localsInUse_invoking X.frames X.method X.code]
    simp only [State.hasRoom, Bool.and_eq_true, decide_eq_true_eq] at h ⊢
    obtain ⟨⟨⟨⟨h1, h2, h3, h4, h5, h6⟩, h7⟩, h8⟩, h9⟩ := h
    rw [X.frames, List.length_cons] at h2 h3
    have q1 := X.heapSize
    have q2 := X.used
    simp only [hF, hU, List.length_cons, State.stackLimits_setFrames, State.stackBytes_setFrames, hl9, hb9]
    refine ⟨⟨⟨⟨by omega, by omega, by omega, by omega, by omega, h6⟩, ?_⟩, ?_⟩, X.book⟩
    · show T.heap.size + R'.cells ≤ e.platform.maxCells
      omega
    · show T.slotsUsed + R'.slots ≤ e.platform.maxSlots
      omega
  · rw [State.stackLimits_setFrames]; rfl
  · rw [State.stackBytes_setFrames]; rfl
  · refine ⟨?_, Nat.le_refl _, Nat.le_refl _, ?_, ?_, fun a c9 h9 => ⟨c9, h9, rfl, rfl, fun _ _ => rfl⟩⟩
    · obtain ⟨t, ht, -⟩ := State.frames_cons hr
      show T.setVm s.vm = { ((T.setVm s.vm).setFrames (.invoking m args :: below)).setFrames (T.setVm s.vm).frames with heap := T.heap, slotsUsed := T.slotsUsed }
      rw [State.setFrames_setFrames, State.setFrames_self ht]
      rfl
    · show T.slotsUsed = T.slotsUsed + ((T.heap.toList.drop T.heap.size).map (·.slots.size)).sum
      rw [List.drop_eq_nil_of_le (Nat.le_of_eq Array.length_toList)]
      rfl
    · show ((T.heap.toList.drop T.heap.size).map (·.slots.size)).sum ≤ 0
      rw [List.drop_eq_nil_of_le (Nat.le_of_eq Array.length_toList)]
      exact Nat.le_refl _
/-- 'throw new E()': new; dup; invokespecial; athrow -/
theorem vx_throw0 {cc : ByteArray} {pc : Nat} (hexec : p.tables.exec = Jvm.exec) (hb : c.code = cc) (hl : l.stackTraces = false) {own cls : String} {names : List String} {ik ic mc ms : Nat} {A : Nat → Prop}
    (hown : s.vm.findClass own = some m.cls) (hcls : Bundle.fit cls = true) (hnames : ∀ n ∈ names, Bundle.fit n = true)
    (hk : (Cond.classLink own ik cls).before args s = true) (hini : (Cond.initialized cls).before args s = true) (hat : ∀ w ∈ vx_at0 own ic cls names, w.before args s = true)
    (hgood : ∀ w ∈ Cond.classLink own ik cls :: Cond.initialized cls :: vx_at0 own ic cls names, vx_ot w = true)
    (hU : vx_Zq Bundle.tN "UNASSIGNED_STACK" Bundle.steD A s s.heap) (hN : vx_Zq Bundle.tN "SUPPRESSED_SENTINEL" Bundle.listD A s s.heap) (hS : va_S A s.heap H locs) (hsize : ls.size = c.maxLocals)
    (d0 : decode cc pc = .ok (.new ik, 3)) (d3 : decode cc (pc + 3) = .ok (.dup, 1)) (d4 : decode cc (pc + 4) = .ok (.invokespecial ic, 3)) (d7 : decode cc (pc + 7) = .ok (.athrow, 1))
    (hout : ∀ x ∈ c.exceptionTable.toList, covers x (pc + 7) = false)
    (hRframes : names.length + 3 < R.frames) (hRlocals : (rest.map fun v => v.category).sum + (13 * (names.length + 1) + 42) ≤ R.locals) (hRcells : cells + 1 ≤ R.cells) (hRslots : slots + 6 ≤ R.slots) (hlocks : meth.locks = false)
    (hx : ∀ t : State, s.vm.Alike t.vm → H.size ≤ t.heap.size → (∀ q : Nat, q < H.size → t.heap[q]? = H[q]?) → XC cls s t)
    (hf : ∀ z ∈ locs, free z.base) (hc : cells + 1 ≤ mc) (hs : slots + 6 ≤ ms) :
    W p l e R s m args below meth c H locs cells slots (vx_MQ below Qc XC args s mc ms free) (F0 m pc ls rest) := by
  intro T hT X
  have htr : e.platform.stackTraces = false := (show e.platform.stackTraces = l.stackTraces by rw [X.admits.platform]).trans hl
  have Y := vx_rebase X (R' := { frames := R.frames, locals := R.locals, cells := 1, slots := 6 }) (Nat.le_refl _) (Nat.le_refl _) hRcells hRslots
  obtain ⟨s', hA⟩ : ∃ z, z = (T.setVm s.vm).setFrames (.invoking m args :: below) := ⟨_, rfl⟩
  rw [← hA] at Y
  have hvm : s'.vm = s.vm := by rw [hA]; rfl
  have hhp : s'.heap = H := by rw [hA]; exact hT
  have hW0 : s.WarmedH s'.vm := by rw [hvm]; exact State.WarmedH.refl s
  have hat' : ∀ w ∈ vx_at0 own ic cls names, w.before args s' = true := fun w hw => vx_ot_at hW0 hvm.symm (hgood w (List.mem_cons_of_mem _ (List.mem_cons_of_mem _ hw))) (hat w hw)
  have hk' : (Cond.classLink own ik cls).before args s' = true := vx_ot_at hW0 hvm.symm (hgood _ List.mem_cons_self) hk
  have hini' : (Cond.initialized cls).before args s' = true := vx_ot_at hW0 hvm.symm (hgood _ (List.mem_cons_of_mem _ List.mem_cons_self)) hini
  have hU' : vx_Zq Bundle.tN "UNASSIGNED_STACK" Bundle.steD A s' s'.heap := by rw [hhp]; exact vx_Zq.moved hW0.alike (hU.kept hS.2.1)
  have hN' : vx_Zq Bundle.tN "SUPPRESSED_SENTINEL" Bundle.listD A s' s'.heap := by rw [hhp]; exact vx_Zq.moved hW0.alike (hN.kept hS.2.1)
  have h : ∀ w ∈ Bundle.ownAtoms0 own ic cls names, w.before args s' = true := vx_own hat' (vx_isRefq hU'.1) (vx_isRefq hN'.1) hU'.2.word hN'.2.word
  have hown' : s'.vm.findClass own = some m.cls := by rw [hvm]; exact hown
  have hins : (Cond.instantiable cls 6).before args s' = true := h _ (by simp [Bundle.ownAtoms0])
  obtain ⟨vm₁, cX, kX, hfX, hkX, -, -, X₁, st1⟩ := Y.newCold hexec (own := own) (C := cls) (index := ik) (n := 6) hown' hk' hins hini'
    (g := F0 m pc ls rest) rfl (by rw [hb]; exact d0) (Nat.le_refl _) (Nat.le_refl _)
  generalize hT1 : (T.setVm vm₁).pushCell { cls := cX, slots := kX.instanceTypes.map defaultValue, vm := .none } = T1 at X₁ st1
  have hcat : (Value.ref T.heap.size).category = 1 := rfl
  have hcellA : T1.heap[T.heap.size]? = some (freshCell cX kX) := by rw [← hT1]; exact State.heap_pushCell_size _ _
  have d3' : decode c.code (pc + 3) = .ok (.dup, 1) := by rw [hb]; exact d3
  obtain ⟨U, hsteps, hrun, hend, hW, hsame, ce, hce, hO⟩ := X₁.ctorThrow0 hexec htr (own := own) (cls := cls) (names := names) (ic := ic) hown' hcls hnames h (fun x hx => nomatch hx) hfX hkX hcellA (by rw [hhp, hT]; exact Nat.le_refl _)
    (g := { method := m, pc := pc + 4, locals := ls, stack := .ref T.heap.size :: .ref T.heap.size :: rest, locked := none }) rfl hsize rfl rfl (rest := rest) rfl
    (by rw [hb]; exact d4) (by rw [hb]; exact d7) hout hRframes (by simp only [List.map_cons, List.sum_cons, hcat]; omega) hlocks
  obtain ⟨f1, f2⟩ := vx_frame hsame
  rw [hhp] at f1 f2
  have hWs : s.WarmedH U.vm := State.WarmedH.trans hW0 hW
  have hcl : s.vm.findClass cls = some ce.cls := by
    have h9 := hO.cls
    rw [hvm] at h9
    exact h9
  have hall : s.sameButNew ({ U with vm := s.vm } : State) locs mc ms := by
    subst hA
    obtain ⟨e1, e2⟩ := hsame
    rw [State.setFrames_setFrames] at e1
    have h2 : (T.setVm s.vm).sameButNew ({ U with vm := s.vm } : State) [] (0 + 1) (0 + 6) := ⟨e1, e2⟩
    have h3 := X.same.trans h2
    rw [List.append_nil] at h3
    exact h3.mono hc hs
  refine ⟨U, ?_, .threw T.heap.size, hrun, hend, Or.inr ⟨T.heap.size, rfl, cls, ce, locs, hx U hWs.alike f1 (fun q hq => f2 q hq (fun z hz => nomatch hz)), hce, hO.vm, hcl, hWs, hall, hf⟩⟩
  refine st1 _ ?_
  show Steps p.tables e below (T1.setTop { method := m, pc := pc + 3, locals := ls, stack := .ref T.heap.size :: rest, locked := none }) _
  jvm_step X₁.here [X₁.here.top, hexec, d3', Value.category]
  exact hsteps
/-- 'throw new E("text")': new; dup; ldc; invokespecial; athrow -/
theorem vx_throwS {cc : ByteArray} {pc : Nat} (hexec : p.tables.exec = Jvm.exec) (hb : c.code = cc) (hl : l.stackTraces = false) {own cls text : String} {names : List String} {ik is ic mc ms sa : Nat} {A : Nat → Prop}
    (hown : s.vm.findClass own = some m.cls) (hcls : Bundle.fit cls = true) (hnames : ∀ n ∈ names, Bundle.fit n = true)
    (hk : (Cond.classLink own ik cls).before args s = true) (hini : (Cond.initialized cls).before args s = true) (hstr : vk_R own is text sa s) (hat : ∀ w ∈ vx_atS own ic cls names, w.before args s = true)
    (hgood : ∀ w ∈ Cond.classLink own ik cls :: Cond.initialized cls :: vx_atS own ic cls names, vx_ot w = true)
    (hU : vx_Zq Bundle.tN "UNASSIGNED_STACK" Bundle.steD A s s.heap) (hN : vx_Zq Bundle.tN "SUPPRESSED_SENTINEL" Bundle.listD A s s.heap) (hS : va_S A s.heap H locs) (hsize : ls.size = c.maxLocals)
    (d0 : decode cc pc = .ok (.new ik, 3)) (d3 : decode cc (pc + 3) = .ok (.dup, 1)) (d4 : decode cc (pc + 4) = .ok (.ldc is, 2)) (d6 : decode cc (pc + 6) = .ok (.invokespecial ic, 3)) (d9 : decode cc (pc + 9) = .ok (.athrow, 1))
    (hout : ∀ x ∈ c.exceptionTable.toList, covers x (pc + 9) = false)
    (hRframes : names.length + 3 < R.frames) (hRlocals : (rest.map fun v => v.category).sum + (13 * (names.length + 1) + 43) ≤ R.locals) (hRcells : cells + 1 ≤ R.cells) (hRslots : slots + 6 ≤ R.slots) (hlocks : meth.locks = false)
    (hx : ∀ t : State, s.vm.Alike t.vm → H.size ≤ t.heap.size → (∀ q : Nat, q < H.size → t.heap[q]? = H[q]?) → XC cls s t)
    (hf : ∀ z ∈ locs, free z.base) (hc : cells + 1 ≤ mc) (hs : slots + 6 ≤ ms) :
    W p l e R s m args below meth c H locs cells slots (vx_MQ below Qc XC args s mc ms free) (F0 m pc ls rest) := by
  intro T hT X
  have htr : e.platform.stackTraces = false := (show e.platform.stackTraces = l.stackTraces by rw [X.admits.platform]).trans hl
  have Y := vx_rebase X (R' := { frames := R.frames, locals := R.locals, cells := 1, slots := 6 }) (Nat.le_refl _) (Nat.le_refl _) hRcells hRslots
  obtain ⟨s', hA⟩ : ∃ z, z = (T.setVm s.vm).setFrames (.invoking m args :: below) := ⟨_, rfl⟩
  rw [← hA] at Y
  have hvm : s'.vm = s.vm := by rw [hA]; rfl
  have hhp : s'.heap = H := by rw [hA]; exact hT
  have hW0 : s.WarmedH s'.vm := by rw [hvm]; exact State.WarmedH.refl s
  have hat' : ∀ w ∈ vx_atS own ic cls names, w.before args s' = true := fun w hw => vx_ot_at hW0 hvm.symm (hgood w (List.mem_cons_of_mem _ (List.mem_cons_of_mem _ hw))) (hat w hw)
  have hk' : (Cond.classLink own ik cls).before args s' = true := vx_ot_at hW0 hvm.symm (hgood _ List.mem_cons_self) hk
  have hini' : (Cond.initialized cls).before args s' = true := vx_ot_at hW0 hvm.symm (hgood _ (List.mem_cons_of_mem _ List.mem_cons_self)) hini
  have hU' : vx_Zq Bundle.tN "UNASSIGNED_STACK" Bundle.steD A s' s'.heap := by rw [hhp]; exact vx_Zq.moved hW0.alike (hU.kept hS.2.1)
  have hN' : vx_Zq Bundle.tN "SUPPRESSED_SENTINEL" Bundle.listD A s' s'.heap := by rw [hhp]; exact vx_Zq.moved hW0.alike (hN.kept hS.2.1)
  have h : ∀ w ∈ Bundle.ownAtoms own ic cls names, w.before args s' = true := vx_own hat' (vx_isRefq hU'.1) (vx_isRefq hN'.1) hU'.2.word hN'.2.word
  have hown' : s'.vm.findClass own = some m.cls := by rw [hvm]; exact hown
  have hins : (Cond.instantiable cls 6).before args s' = true := h _ (by simp [Bundle.ownAtoms])
  obtain ⟨vm₁, cX, kX, hfX, hkX, -, -, X₁, st1⟩ := Y.newCold hexec (own := own) (C := cls) (index := ik) (n := 6) hown' hk' hins hini'
    (g := F0 m pc ls rest) rfl (by rw [hb]; exact d0) (Nat.le_refl _) (Nat.le_refl _)
  generalize hT1 : (T.setVm vm₁).pushCell { cls := cX, slots := kX.instanceTypes.map defaultValue, vm := .none } = T1 at X₁ st1
  have hcat : (Value.ref T.heap.size).category = 1 := rfl
  have hcellA : T1.heap[T.heap.size]? = some (freshCell cX kX) := by rw [← hT1]; exact State.heap_pushCell_size _ _
  have d3' : decode c.code (pc + 3) = .ok (.dup, 1) := by rw [hb]; exact d3
  have d4' : decode c.code (pc + 4) = .ok (.ldc is, 2) := by rw [hb]; exact d4
  have hstr' : vk_R own is text sa s' := vk_R.warm hW0 hstr
  obtain ⟨U, hsteps, hrun, hend, hW, hsame, ce, hce, hO⟩ := X₁.ctorThrowS hexec htr (own := own) (cls := cls) (names := names) (ic := ic) hown' hcls hnames h (fun x hx => nomatch hx) hfX hkX hcellA (by rw [hhp, hT]; exact Nat.le_refl _) (msg := .ref sa) rfl
    (g := { method := m, pc := pc + 6, locals := ls, stack := .ref sa :: .ref T.heap.size :: .ref T.heap.size :: rest, locked := none }) rfl hsize rfl rfl (rest := rest) rfl
    (by rw [hb]; exact d6) (by rw [hb]; exact d9) hout hRframes (by simp only [List.map_cons, List.sum_cons, hcat]; omega) hlocks
  obtain ⟨f1, f2⟩ := vx_frame hsame
  rw [hhp] at f1 f2
  have hWs : s.WarmedH U.vm := State.WarmedH.trans hW0 hW
  have hcl : s.vm.findClass cls = some ce.cls := by
    have h9 := hO.cls
    rw [hvm] at h9
    exact h9
  have hall : s.sameButNew ({ U with vm := s.vm } : State) locs mc ms := by
    subst hA
    obtain ⟨e1, e2⟩ := hsame
    rw [State.setFrames_setFrames] at e1
    have h2 : (T.setVm s.vm).sameButNew ({ U with vm := s.vm } : State) [] (0 + 1) (0 + 6) := ⟨e1, e2⟩
    have h3 := X.same.trans h2
    rw [List.append_nil] at h3
    exact h3.mono hc hs
  refine ⟨U, ?_, .threw T.heap.size, hrun, hend, Or.inr ⟨T.heap.size, rfl, cls, ce, locs, hx U hWs.alike f1 (fun q hq => f2 q hq (fun z hz => nomatch hz)), hce, hO.vm, hcl, hWs, hall, hf⟩⟩
  refine st1 _ ?_
  show Steps p.tables e below (T1.setTop { method := m, pc := pc + 3, locals := ls, stack := .ref T.heap.size :: rest, locked := none }) _
  jvm_step X₁.here [X₁.here.top, hexec, d3', Value.category]
  exact X₁.ldcString hexec (own := own) (text := text) (index := is) (a := sa) hown' hstr'.1 hstr'.2
    (g := { method := m, pc := pc + 4, locals := ls, stack := .ref T.heap.size :: .ref T.heap.size :: rest, locked := none }) rfl d4' _ hsteps
/-- 'throw new E("text")', the text by a wide index -/
theorem vx_throwSW {cc : ByteArray} {pc : Nat} (hexec : p.tables.exec = Jvm.exec) (hb : c.code = cc) (hl : l.stackTraces = false) {own cls text : String} {names : List String} {ik is ic mc ms sa : Nat} {A : Nat → Prop}
    (hown : s.vm.findClass own = some m.cls) (hcls : Bundle.fit cls = true) (hnames : ∀ n ∈ names, Bundle.fit n = true)
    (hk : (Cond.classLink own ik cls).before args s = true) (hini : (Cond.initialized cls).before args s = true) (hstr : vk_R own is text sa s) (hat : ∀ w ∈ vx_atS own ic cls names, w.before args s = true)
    (hgood : ∀ w ∈ Cond.classLink own ik cls :: Cond.initialized cls :: vx_atS own ic cls names, vx_ot w = true)
    (hU : vx_Zq Bundle.tN "UNASSIGNED_STACK" Bundle.steD A s s.heap) (hN : vx_Zq Bundle.tN "SUPPRESSED_SENTINEL" Bundle.listD A s s.heap) (hS : va_S A s.heap H locs) (hsize : ls.size = c.maxLocals)
    (d0 : decode cc pc = .ok (.new ik, 3)) (d3 : decode cc (pc + 3) = .ok (.dup, 1)) (d4 : decode cc (pc + 4) = .ok (.ldc_w is, 3)) (d7 : decode cc (pc + 7) = .ok (.invokespecial ic, 3)) (d10 : decode cc (pc + 10) = .ok (.athrow, 1))
    (hout : ∀ x ∈ c.exceptionTable.toList, covers x (pc + 10) = false)
    (hRframes : names.length + 3 < R.frames) (hRlocals : (rest.map fun v => v.category).sum + (13 * (names.length + 1) + 43) ≤ R.locals) (hRcells : cells + 1 ≤ R.cells) (hRslots : slots + 6 ≤ R.slots) (hlocks : meth.locks = false)
    (hx : ∀ t : State, s.vm.Alike t.vm → H.size ≤ t.heap.size → (∀ q : Nat, q < H.size → t.heap[q]? = H[q]?) → XC cls s t)
    (hf : ∀ z ∈ locs, free z.base) (hc : cells + 1 ≤ mc) (hs : slots + 6 ≤ ms) :
    W p l e R s m args below meth c H locs cells slots (vx_MQ below Qc XC args s mc ms free) (F0 m pc ls rest) := by
  intro T hT X
  have htr : e.platform.stackTraces = false := (show e.platform.stackTraces = l.stackTraces by rw [X.admits.platform]).trans hl
  have Y := vx_rebase X (R' := { frames := R.frames, locals := R.locals, cells := 1, slots := 6 }) (Nat.le_refl _) (Nat.le_refl _) hRcells hRslots
  obtain ⟨s', hA⟩ : ∃ z, z = (T.setVm s.vm).setFrames (.invoking m args :: below) := ⟨_, rfl⟩
  rw [← hA] at Y
  have hvm : s'.vm = s.vm := by rw [hA]; rfl
  have hhp : s'.heap = H := by rw [hA]; exact hT
  have hW0 : s.WarmedH s'.vm := by rw [hvm]; exact State.WarmedH.refl s
  have hat' : ∀ w ∈ vx_atS own ic cls names, w.before args s' = true := fun w hw => vx_ot_at hW0 hvm.symm (hgood w (List.mem_cons_of_mem _ (List.mem_cons_of_mem _ hw))) (hat w hw)
  have hk' : (Cond.classLink own ik cls).before args s' = true := vx_ot_at hW0 hvm.symm (hgood _ List.mem_cons_self) hk
  have hini' : (Cond.initialized cls).before args s' = true := vx_ot_at hW0 hvm.symm (hgood _ (List.mem_cons_of_mem _ List.mem_cons_self)) hini
  have hU' : vx_Zq Bundle.tN "UNASSIGNED_STACK" Bundle.steD A s' s'.heap := by rw [hhp]; exact vx_Zq.moved hW0.alike (hU.kept hS.2.1)
  have hN' : vx_Zq Bundle.tN "SUPPRESSED_SENTINEL" Bundle.listD A s' s'.heap := by rw [hhp]; exact vx_Zq.moved hW0.alike (hN.kept hS.2.1)
  have h : ∀ w ∈ Bundle.ownAtoms own ic cls names, w.before args s' = true := vx_own hat' (vx_isRefq hU'.1) (vx_isRefq hN'.1) hU'.2.word hN'.2.word
  have hown' : s'.vm.findClass own = some m.cls := by rw [hvm]; exact hown
  have hins : (Cond.instantiable cls 6).before args s' = true := h _ (by simp [Bundle.ownAtoms])
  obtain ⟨vm₁, cX, kX, hfX, hkX, -, -, X₁, st1⟩ := Y.newCold hexec (own := own) (C := cls) (index := ik) (n := 6) hown' hk' hins hini'
    (g := F0 m pc ls rest) rfl (by rw [hb]; exact d0) (Nat.le_refl _) (Nat.le_refl _)
  generalize hT1 : (T.setVm vm₁).pushCell { cls := cX, slots := kX.instanceTypes.map defaultValue, vm := .none } = T1 at X₁ st1
  have hcat : (Value.ref T.heap.size).category = 1 := rfl
  have hcellA : T1.heap[T.heap.size]? = some (freshCell cX kX) := by rw [← hT1]; exact State.heap_pushCell_size _ _
  have d3' : decode c.code (pc + 3) = .ok (.dup, 1) := by rw [hb]; exact d3
  have d4' : decode c.code (pc + 4) = .ok (.ldc_w is, 3) := by rw [hb]; exact d4
  have hstr' : vk_R own is text sa s' := vk_R.warm hW0 hstr
  obtain ⟨U, hsteps, hrun, hend, hW, hsame, ce, hce, hO⟩ := X₁.ctorThrowS hexec htr (own := own) (cls := cls) (names := names) (ic := ic) hown' hcls hnames h (fun x hx => nomatch hx) hfX hkX hcellA (by rw [hhp, hT]; exact Nat.le_refl _) (msg := .ref sa) rfl
    (g := { method := m, pc := pc + 7, locals := ls, stack := .ref sa :: .ref T.heap.size :: .ref T.heap.size :: rest, locked := none }) rfl hsize rfl rfl (rest := rest) rfl
    (by rw [hb]; exact d7) (by rw [hb]; exact d10) hout hRframes (by simp only [List.map_cons, List.sum_cons, hcat]; omega) hlocks
  obtain ⟨f1, f2⟩ := vx_frame hsame
  rw [hhp] at f1 f2
  have hWs : s.WarmedH U.vm := State.WarmedH.trans hW0 hW
  have hcl : s.vm.findClass cls = some ce.cls := by
    have h9 := hO.cls
    rw [hvm] at h9
    exact h9
  have hall : s.sameButNew ({ U with vm := s.vm } : State) locs mc ms := by
    subst hA
    obtain ⟨e1, e2⟩ := hsame
    rw [State.setFrames_setFrames] at e1
    have h2 : (T.setVm s.vm).sameButNew ({ U with vm := s.vm } : State) [] (0 + 1) (0 + 6) := ⟨e1, e2⟩
    have h3 := X.same.trans h2
    rw [List.append_nil] at h3
    exact h3.mono hc hs
  refine ⟨U, ?_, .threw T.heap.size, hrun, hend, Or.inr ⟨T.heap.size, rfl, cls, ce, locs, hx U hWs.alike f1 (fun q hq => f2 q hq (fun z hz => nomatch hz)), hce, hO.vm, hcl, hWs, hall, hf⟩⟩
  refine st1 _ ?_
  show Steps p.tables e below (T1.setTop { method := m, pc := pc + 3, locals := ls, stack := .ref T.heap.size :: rest, locked := none }) _
  jvm_step X₁.here [X₁.here.top, hexec, d3', Value.category]
  exact X₁.ldcStringW hexec (own := own) (text := text) (index := is) (a := sa) hown' hstr'.1 hstr'.2
    (g := { method := m, pc := pc + 4, locals := ls, stack := .ref T.heap.size :: .ref T.heap.size :: rest, locked := none }) rfl d4' _ hsteps
end Ends
section Bodies
variable {l : Launch}
theorem vx_ofW {y : MethodName} {ws ws' : List Cond} {rm : Room} {Pc : Array Value → State → Prop} {Qc : Array Value → State → Outcome → State → Prop} {XC : String → State → State → Prop} {mc ms : Nat} {free : Addr → Prop} {cc : ByteArray} {maxL : Nat} {ret : Option FieldType}
    (hy : plainName y.cls = true) (hw : ws = Cond.code y cc maxL ret :: ws')
    (body : ∀ p e s m args below meth c s₁, BodyLoose p l y (headSpec ws rm) cc maxL ret e s m args below meth c s₁ → c.maxLocals = maxL → (∀ x ∈ c.exceptionTable.toList, False) → Pc args s →
      W p l e (headSpec ws rm).room s m args below meth c s.heap [] 0 0 (vx_MQ below Qc XC args s mc ms free) (entryFrame m args maxL)) : vx_Met l y ws rm Pc Qc XC mc ms free := by
  refine MetFree.of_bodyS (code := cc) (maxLocals := maxL) (ret := ret) hy ?_ ?_
  · intro args s m h hn
    obtain ⟨meth, c, h1, h2, h3, h4, h5, h6, -, -⟩ := Cond.code_spec hn (atoms_spec (ws := ws) h _ (by rw [hw]; exact List.mem_cons_self))
    exact ⟨meth, c, h1, h2, h3, h4, h5, h6⟩
  · intro p e s m args below meth c s₁ B hml hP _
    have hh0 : s₁.heap = s.heap := by rw [B.state]; rfl
    have ht : ∀ x ∈ c.exceptionTable.toList, False := by
      obtain ⟨meth9, c9, h1, h2, -, -, -, -, h7, -⟩ := Cond.code_spec B.named (atoms_spec (ws := ws) B.pre _ (by rw [hw]; exact List.mem_cons_self))
      cases Option.some.inj (h1.symm.trans B.method)
      cases Option.some.inj (h2.symm.trans (Stand.of_body B).code)
      intro x hx
      rw [Array.isEmpty_iff.mp h7] at hx
      cases hx
    obtain ⟨t, a1, o, b1, b2, b3⟩ := body p e s m args below meth c s₁ B hml ht hP s₁ hh0 (Stand.of_body B)
    exact ⟨t, o, a1, b1, b2, b3⟩
/-- the table of a body with handlers -/
theorem vx_table {p : Program} {x y : MethodName} {S : Spec} {cc bytes : ByteArray} {maxL maxL' : Nat} {ret ret' : Option FieldType} {e : Env} {s s₁ : State} {m : MethodId} {args : Array Value} {below : List Frame} {meth : Method} {c : Code} {hh : List (Nat × Nat × Nat × Nat)}
    (B : BodyLoose p l y S cc maxL ret e s m args below meth c s₁) (h : (Cond.codeWith y bytes maxL' ret' hh).before args s = true) : c.exceptionTable.toList = tableOf hh := by
  obtain ⟨m9, meth9, c9, hn9, h1, h2, -, -, h6, -⟩ := Cond.codeWith_spec h
  cases Option.some.inj (hn9.symm.trans B.named)
  cases Option.some.inj (h1.symm.trans B.method)
  cases Option.some.inj (h2.symm.trans (Stand.of_body B).code)
  rw [← h6, table_eq]
end Bodies
end VXA
/-! ===== END ===== -/
/-! ===== BEGIN a static call of a method with an exception table ===== -/
section VXS
variable {p : Program} {l : Launch} {e : Env} {R : Room} {s : State} {m : MethodId} {args : Array Value} {below : List Frame} {meth : Method} {c : Code} {T : State} {H : Heap} {locs : List Loc} {cells slots : Nat}
abbrev vx_CSW (R : Room) (s : State) (args : Array Value) (own : String) (index : Nat) (y : MethodName) (bytes : ByteArray) (maxL : Nat) (ret : Option FieldType) (hh : List (Nat × Nat × Nat × Nat)) (ws : List Cond) (rm : Room) (mc ms n : Nat) : Prop :=
  (rm.cells = mc ∧ rm.slots = ms ∧ rm.frames + 1 ≤ R.frames ∧ 8 + (maxL + 11) + rm.locals ≤ R.locals ∧ (∀ w ∈ ws, ∀ (a' : Array Value) (U : State), s.WarmedH U.vm → w.before a' U = true) ∧ Cond.codeWith y bytes maxL ret hh ∈ ws) ∧
  (Cond.codeWith y bytes maxL ret hh).before args s = true ∧ (Cond.initialized y.cls).before args s = true ∧ (y.cls ≠ "java/lang/invoke/MethodHandle" ∧ y.cls ≠ "java/lang/invoke/VarHandle") ∧
  (∀ sig, parseMethodDescriptor y.desc = some sig → n = sig.parameters.length) ∧ (Cond.methodLink own index y).before args s = true ∧ (Cond.static y).before args s = true
theorem vx_cwSW {own : String} {index maxL mc ms : Nat} {y : MethodName} {bytes : ByteArray} {ret : Option FieldType} {hh : List (Nat × Nat × Nat × Nat)} {Ts ws ws' : List Cond} {rm : Room} (n : Nat) (ht : ∀ w ∈ Ts, w.before args s = true) (hT : GoodIn Ts (va_wsS own index y ws)) (hw : ws = Cond.codeWith y bytes maxL ret hh :: ws') (hrc : rm.cells = mc) (hrs : rm.slots = ms)
    (hd : y.cls ≠ "java/lang/invoke/MethodHandle" ∧ y.cls ≠ "java/lang/invoke/VarHandle" ∧ (parseMethodDescriptor y.desc).map (fun d => d.parameters.length) = some n) (hR : rm.frames + 1 ≤ R.frames ∧ 8 + (maxL + 11) + rm.locals ≤ R.locals) :
    vx_CSW R s args own index y bytes maxL ret hh ws rm mc ms n := by
  have ok : ∀ w ∈ va_wsS own index y ws, w.before args s = true := fun w h => ht w (hT w h).1
  have hG : GoodIn Ts ws := fun w h => hT w (by unfold va_wsS; exact List.mem_append_right _ h)
  have hc : Cond.codeWith y bytes maxL ret hh ∈ ws := by rw [hw]; exact List.mem_cons_self
  refine ⟨⟨hrc, hrs, hR.1, hR.2, pay_in ht hG, hc⟩, ht _ (hG _ hc).1, ok _ (by simp [va_wsS]), ⟨hd.1, hd.2.1⟩, fun sig h => ?_, ok _ (by simp [va_wsS]), ok _ (by simp [va_wsS])⟩
  have h2 := hd.2.2
  rw [h] at h2
  exact (Option.some.inj h2).symm
theorem vx_callSW (X : Stand p l e R s m args below meth c T locs cells slots) (hexec : p.tables.exec = Jvm.exec) {own : String} {index : Nat} {y : MethodName} {bytes : ByteArray} {maxL : Nat} {ret : Option FieldType} {hh : List (Nat × Nat × Nat × Nat)}
    (hown : s.vm.findClass own = some m.cls) (hlink : (Cond.methodLink own index y).before args s = true) (hstat : (Cond.static y).before args s = true) (hinit : (Cond.initialized y.cls).before args s = true)
    (hcode : (Cond.codeWith y bytes maxL ret hh).before args s = true) (hy : y.cls ≠ "java/lang/invoke/MethodHandle" ∧ y.cls ≠ "java/lang/invoke/VarHandle")
    {W9 : Nat} {Pre : Pt → Array Value → Prop} {Post : Pt → Array Value → Option Value → Pt → Prop} (hK : Back l R p e below s args y 3 W9 Pre Post)
    {g : JFrame} (hg : g.method = m) (hsize : g.locals.size = c.maxLocals) {argsL rest : List Value} (hlen : ∀ sig, parseMethodDescriptor y.desc = some sig → argsL.length = sig.parameters.length)
    (hstack : g.stack = argsL.reverse ++ rest) (hW : 2 * g.monitorRoom + (rest.map fun v => v.category).sum ≤ W9) (hdg : decode c.code g.pc = .ok (.invokestatic index, 3))
    (hpre : ∀ vm₁, s.WarmedH vm₁ → Pre ⟨T.setVm vm₁, locs, cells, slots⟩ argsL.toArray) :
    ∃ (v : Option Value) (vm₁ : Vm) (B : Pt), s.WarmedH vm₁ ∧ Stand p l e R s m args below meth c B.U B.locs B.cells B.slots ∧ Post ⟨T.setVm vm₁, locs, cells, slots⟩ argsL.toArray v B ∧
      ∀ target, Steps p.tables e below (B.U.setTop { g with pc := g.pc + 3, stack := v.toList ++ rest }) target → Steps p.tables e below (T.setTop g) target := by
  obtain ⟨mk, methM, cM, hnamed, hmethM, -, -, -, -, -, -, hsigM⟩ := Cond.codeWith_spec hcode
  have hstatic : methM.isStatic = true := Cond.static_spec hnamed hmethM hstat
  obtain ⟨kP, hkP, -⟩ := className_of_methodNamed hnamed
  have hinitP : kP.init = .initialized := Cond.initialized_spec (findClass_of_methodNamed hnamed) hkP hinit
  obtain ⟨vm₁, X₁, hstep₁⟩ := X.invokestatic hexec hown hlink hnamed hmethM hstatic hkP hinitP hy (g := g) hg (argsL := argsL) (rest := rest) (hlen _ hsigM) hstack hdg
  obtain ⟨v, B, X', hpost, hsteps⟩ := hK m meth c ⟨T.setVm vm₁, locs, cells, slots⟩ { g with stack := rest } (.invokestatic index) mk argsL.toArray X₁ hg hsize hdg hW (X₁.named hnamed) (hpre vm₁ X₁.warmed)
  exact ⟨v, vm₁, B, X₁.warmed, X', hpost, fun target h => hstep₁ _ fun acts => by rw [doInvoke_state]; exact hsteps.trans h⟩
theorem vx_runSW {y : MethodName} {bytes cc : ByteArray} {maxL nL mc ms n index : Nat} {ret : Option FieldType} {hh : List (Nat × Nat × Nat × Nat)} {ws : List Cond} {rm : Room} {Pc : Array Value → State → Prop} {Qc : Array Value → State → Outcome → State → Prop} {free : Addr → Prop} {Ts : List Cond} {own : String} {As rest : List Value} {g : JFrame}
    (S : CallFix p m c cc nL s args Ts own) (hM : Met l y ws rm Pc Qc mc ms free) (cw : vx_CSW R s args own index y bytes maxL ret hh ws rm mc ms n) (hp : PreS s H Pc As)
    (hg : g.method = m) (hn : As.length = n) (hsize : g.locals.size = nL) (hstack : g.stack = As.reverse ++ rest) (hW : 2 * g.monitorRoom + (rest.map fun v => v.category).sum ≤ 8) (hdg : decode cc g.pc = .ok (.invokestatic index, 3)) (hf : cells + mc ≤ R.cells ∧ slots + ms ≤ R.slots) :
    va_Run p l e R s m args below meth c H locs cells slots mc ms g rest (Qc As.toArray) (free) := by
  obtain ⟨⟨hrc, hrs, hfr, hlo, hws, hcw⟩, hcode, hini, hy, hlen, hl, hstt⟩ := cw
  have hK : Back l R p e below s args y 3 8 (PreOf R mc ms Pc) (PostOf Qc mc ms free) := va_backW (hh := hh) (bytes := bytes) (maxL := maxL) (ret := ret) hM hp.1 hrc hrs hfr hlo hws hcw (fun a' U hW => word_at hW (Or.inl (by first | rfl | simp [Cond.onTables, Cond.keeps, Cond.steady])) hini)
  obtain ⟨hx, hb, hml, ho, -⟩ := S
  intro T hT X
  obtain ⟨v, vm₁, ⟨U', l2, c2, s2⟩, hW₁, X', ⟨g', mk, t, L, e1, e2, hq, h1, hL, h2, h3⟩, st⟩ := vx_callSW X hx (hh := hh) (bytes := bytes) (maxL := maxL) (ret := ret) ho hl hstt hini hcode hy hK hg (hsize.trans hml.symm) (argsL := As) (rest := rest) (fun sig h => hn.trans (hlen sig h)) hstack hW (by rw [hb]; exact hdg)
    (fun vm₁ hW₁ => ⟨hf.1, hf.2, hp.2 (T.setVm vm₁) hT hW₁⟩)
  dsimp only [Pt.U, Pt.locs, Pt.cells, Pt.slots] at X' e1 e2 h1 h2 h3 st
  subst h1; subst h2; subst h3
  exact ⟨v, (T.setVm vm₁).calling g' mk As.toArray, t, U', L, hT, X', hL, e1, e2, hq, st⟩
/-- not caught here, past rows that name other classes: it goes on to the caller -/
theorem vx_outP {p : Program} {l : Launch} {e : Env} {R : Room} {s : State} {m : MethodId} {args : Array Value} {below : List Frame} {meth : Method} {c : Code} {H : Heap} {locs : List Loc} {cells slots : Nat} {free : Addr → Prop} {ls : Array Slot} {rest : List Value} {Qc : Array Value → State → Outcome → State → Prop} {XC : String → State → State → Prop}
    {pc : Nat} {own E : String} {ce : Cell} {q : Addr} {mc ms : Nat} (hown : s.vm.findClass own = some m.cls) (hlocks : meth.locks = false)
    (hpass : ∀ z ∈ c.exceptionTable.toList, covers z pc = false ∨ (z.catchType ≠ 0 ∧ ∃ nm : String, (Cond.classLink own z.catchType nm).before args s = true ∧ va_Nc E nm s)) (hcell : H[q]? = some ce) (hv : ce.vm = .none) (hcl : s.vm.findClass E = some ce.cls)
    (hx : ∀ t : State, t.heap = H → s.vm.Alike t.vm → XC E s t) (hf : ∀ z ∈ locs, free z.base) (hc : cells ≤ mc) (hs : slots ≤ ms) :
    vx_W p l e R s m args below meth c H locs cells slots (vx_MQ below Qc XC args s mc ms free) (F0 m pc ls rest) q := by
  intro T hT X
  have hpl : e.platform.magicAccessors = ({} : Platform).magicAccessors := by rw [X.admits.platform]
  obtain ⟨vm', hW', X', st⟩ := X.outThrough hlocks q (g := F0 m pc ls rest) rfl rfl rfl (cell := ce) (by rw [hT]; exact hcell) (by rw [hv]; rfl)
    (by obtain ⟨k9, h9, -⟩ := Vm.findClass_spec hcl; exact ⟨k9, h9⟩) (fun z hz => by
      rcases hpass z hz with h | ⟨hz0, nm, hl1, hn1⟩
      · exact Or.inl h
      · obtain ⟨c6, hc6, hcl6⟩ := Cond.classLink_spec hown hl1 e.platform hpl
        obtain ⟨a8, b8, h1, h2, h3⟩ := hn1
        cases Option.some.inj (h1.symm.trans hcl)
        cases Option.some.inj (h2.symm.trans hc6)
        exact Or.inr ⟨hz0, _, hcl6, h3⟩)
  obtain ⟨g₀, hfr⟩ := X'.frames_eq
  have hcell9 : ((T.setVm vm').setFrames (.throwing q :: below)).heap[q]? = some ce := by
    show T.heap[q]? = some ce
    rw [hT]; exact hcell
  have hend : Ended ((T.setVm vm').setFrames (.throwing q :: below)) below (.threw q) := State.frames_setFrames _ (State.cur_lt_of_frames hfr)
  refine ⟨(T.setVm vm').setFrames (.throwing q :: below), ?_, .threw q, X'.here.running, hend, Or.inr ⟨q, rfl, E, ce, locs, hx _ hT (X'.ends _).1.alike, hcell9, hv, hcl, (X'.ends _).1, (X'.ends _).2.mono hc hs, hf⟩⟩
  rw [X.pushThrowing_eq]
  exact st
/-- a thing of a world lies in the heap -/
theorem vx_lt {D : va_G} {cl : List vw_C} {ws : va_W} {H1 : Heap} (h : va_P D cl ws H1) {k : Nat} {q : Nat × va_E} (hk : ws[k]? = some q) : q.1 < H1.size := (h k q hk).lt
end VXS
/-! ===== END ===== -/
/-! ===== BEGIN methods with a table of their own: called by a name, returning or throwing ===== -/
section VXH
/-! vx_backW, vx_callVX, vx_callSX, vx_callVW, vx_runVW, vx_runVX, vx_runSX, vx_ofWH follow the same proofs as their sisters above (Free/Laws.lean, Shelf42/LK1.lean); vx_outP calls Shelf42/NT130.lean (outThrough). -/
section
variable {l : Launch} {R : Room} {p : Program} {e : Env} {below : List Frame} {s : State} {sargs : Array Value} {y : MethodName} {len W9 : Nat}
theorem vx_backW {ws : List Cond} {rm : Room} {Pc : Array Value → State → Prop} {Qc : Array Value → State → Outcome → State → Prop} {XC : String → State → State → Prop} {mc ms : Nat} {free : Addr → Prop} {bytes : ByteArray} {maxL : Nat} {ret : Option FieldType} {hh : List (Nat × Nat × Nat × Nat)}
    (hM : vx_Met l y ws rm Pc Qc XC mc ms free) (hblind : FrameBlind Pc) (hrc : rm.cells = mc) (hrs : rm.slots = ms)
    (hframes : rm.frames + 1 ≤ R.frames) (hlocals : W9 + (maxL + 11) + rm.locals ≤ R.locals)
    (hws : ∀ w ∈ ws, ∀ a' U, s.WarmedH U.vm → w.before a' U = true) (hcode : Cond.codeWith y bytes maxL ret hh ∈ ws) (hinit : ∀ a' U, s.WarmedH U.vm → (Cond.initialized y.cls).before a' U = true) :
    vx_Back l R p e below s sargs y len W9 (PreOf R mc ms Pc) (PostOf Qc mc ms free) (vx_Post XC mc ms free) := by
  intro m meth c A g ig mk a X hg hsize hdg hW hn hp
  have h1 : (headSpec ws rm).pre.before a A.U = true := atoms_intro fun w hw => hws w hw _ _ X.warmed
  have h2 : (Cond.codeWith y bytes maxL ret hh).before a A.U = true := hws _ hcode _ _ X.warmed
  have h3 : (Cond.initialized y.cls).before a A.U = true := hinit _ _ X.warmed
  have h4 : A.cells + (headSpec ws rm).room.cells ≤ R.cells := by rw [show (headSpec ws rm).room.cells = mc from hrc]; exact hp.1
  have h5 : A.slots + (headSpec ws rm).room.slots ≤ R.slots := by rw [show (headSpec ws rm).room.slots = ms from hrs]; exact hp.2.1
  have hPc : Pc a (A.U.calling g mk a) := hblind _ _ _ _ hp.2.2
  obtain ⟨U, Ls, c0, s0⟩ := A
  dsimp only [Pt.U, Pt.locs, Pt.cells, Pt.slots] at h1 h2 h3 h4 h5 X hn hPc ⊢
  obtain ⟨m9, methY, cY, hn9, hmY, hcY, -, hlY, -⟩ := Cond.codeWith_spec h2
  cases Option.some.inj (hn9.symm.trans hn)
  obtain ⟨kY, hkY, -⟩ := className_of_methodNamed hn
  have hinitY : kY.init = .initialized := Cond.initialized_spec (findClass_of_methodNamed hn) hkY h3
  have h : At U g.method c below := by rw [hg]; exact X.here
  have hlocals9 : W9 + (maxL + 11) + (headSpec ws rm).room.locals ≤ R.locals := hlocals
  have happ : (headSpec ws rm).appliesLoose y e.platform (U.calling g mk a) = true :=
    Spec.appliesLoose_calling (g := g) h hdg hn hkY hinitY
      (X.room_calling (g := g) (R' := (headSpec ws rm).room) hsize hmY hcY hframes (by rw [hlY]; omega) h4 h5) h1
  obtain ⟨mid, hmid⟩ := h.above
  have hfr : (U.setTop g).frames = (.java g :: mid) ++ below := by rw [State.frames_setTop' g h.top, hmid]; rfl
  obtain ⟨o, s₂, hsteps, -, hend, hq⟩ := Steps.callFree hM p X.admits X.cas X.clock (acts := []) hfr happ hPc trivial
  have hq' : vx_Q Qc XC mc ms free a (U.calling g mk a) o s₂ := hq
  rw [State.frames_setTop' g h.top] at hend
  obtain ⟨g₀, hg0⟩ := Option.isSome_iff_exists.mp h.top
  obtain ⟨r, hr⟩ := State.topJava?_eq_some.mp hg0
  have hr' : (({ U with heap := s₂.heap, slotsUsed := s₂.slotsUsed } : State).setVm s₂.vm).frames = .java g₀ :: r := hr
  rcases hq' with ⟨hqc, L, hfe, hL⟩ | ⟨q, rfl, E, ce, L, hx, hce, hcv, hcl, hW₂, hsm, hL⟩
  · obtain ⟨⟨v, rfl⟩, hW₂, e2, q2, q3, q4, q5, q6⟩ := id hfe
    have e3 : s₂ = ({ (U.calling g mk a).setFrames s₂.frames with heap := s₂.heap, slotsUsed := s₂.slotsUsed } : State).setVm s₂.vm := by
      have : s₂ = ({ s₂ with vm := (U.calling g mk a).vm } : State).setVm s₂.vm := rfl
      rw [e2] at this
      exact this
    obtain ⟨c₂, i₂, len₂, hc₂, hd₂, hf₂⟩ := hend
    have hW' : U.WarmedH s₂.vm := hW₂
    have hcc : c₂ = c := by
      have h1 : s₂.code? g.method = U.code? g.method := by
        rw [State.code?_eq, State.code?_eq, hW'.alike.method?]
      exact Option.some.inj (hc₂.symm.trans (h1.trans h.code))
    subst hcc
    have hlen : len₂ = len := by rw [hdg] at hd₂; cases hd₂; rfl
    subst hlen
    have hs₂ : s₂ = (({ U with heap := s₂.heap, slotsUsed := s₂.slotsUsed } : State).setVm s₂.vm).setTop { g with pc := g.pc + len₂, stack := v.toList ++ g.stack } := by
      refine e3.trans ?_
      rw [hf₂, State.calling_eq h.top, State.setFrames_setFrames, State.setTop_of_frames _ hr', hr]
      rfl
    have hsame : U.sameButNew ({ U with heap := s₂.heap, slotsUsed := s₂.slotsUsed } : State) L mc ms := by
      refine ⟨?_, q2, q3, q4, q5, q6⟩
      obtain ⟨t, ht, -⟩ := State.frames_cons hr
      show ({ U with heap := s₂.heap, slotsUsed := s₂.slotsUsed } : State) = { U.setFrames U.frames with heap := s₂.heap, slotsUsed := s₂.slotsUsed }
      rw [State.setFrames_self ht]
    subst hg
    refine Or.inl ⟨v, ⟨(({ U with heap := s₂.heap, slotsUsed := s₂.slotsUsed } : State).setVm s₂.vm), Ls ++ L, c0 + mc, s0 + ms⟩,
      ⟨X.admits, X.cas, X.clock, X.frames, X.room, X.hears, X.method, X.code, (X.here.setHeapUsed s₂.heap s₂.slotsUsed).setVm hW'.alike, X.tail, State.WarmedH.trans X.warmed hW', X.limits, X.bytes, X.same.trans (hsame.setVm s.vm)⟩,
      ⟨g, mk, s₂, L, rfl, rfl, hqc, rfl, hL, rfl, rfl⟩, ?_⟩
    show Steps p.tables e below _ ((({ U with heap := s₂.heap, slotsUsed := s₂.slotsUsed } : State).setVm s₂.vm).setTop { g with pc := g.pc + len₂, stack := v.toList ++ g.stack })
    rw [← hs₂]
    exact hsteps
  · obtain ⟨e2, q2, q3, q4, q5, q6⟩ := id hsm
    have e3 : s₂ = ({ (U.calling g mk a).setFrames s₂.frames with heap := s₂.heap, slotsUsed := s₂.slotsUsed } : State).setVm s₂.vm := by
      have : s₂ = ({ s₂ with vm := (U.calling g mk a).vm } : State).setVm s₂.vm := rfl
      rw [e2] at this
      exact this
    have hf₂ : s₂.frames = .throwing q :: .java g :: U.frames.tail := hend
    have hW' : U.WarmedH s₂.vm := hW₂
    have hs₂ : s₂ = ((({ U with heap := s₂.heap, slotsUsed := s₂.slotsUsed } : State).setVm s₂.vm).setTop g).pushFrame (.throwing q) := by
      refine e3.trans ?_
      rw [hf₂, State.calling_eq h.top, State.setFrames_setFrames, State.pushFrame, State.frames_setTop _ hr', State.setTop_of_frames _ hr', State.setFrames_setFrames, hr]
      rfl
    have hsame : U.sameButNew ({ U with heap := s₂.heap, slotsUsed := s₂.slotsUsed } : State) L mc ms := by
      refine ⟨?_, q2, q3, q4, q5, q6⟩
      obtain ⟨t, ht, -⟩ := State.frames_cons hr
      show ({ U with heap := s₂.heap, slotsUsed := s₂.slotsUsed } : State) = { U.setFrames U.frames with heap := s₂.heap, slotsUsed := s₂.slotsUsed }
      rw [State.setFrames_self ht]
    subst hg
    refine Or.inr ⟨q, ⟨(({ U with heap := s₂.heap, slotsUsed := s₂.slotsUsed } : State).setVm s₂.vm), Ls ++ L, c0 + mc, s0 + ms⟩,
      ⟨X.admits, X.cas, X.clock, X.frames, X.room, X.hears, X.method, X.code, (X.here.setHeapUsed s₂.heap s₂.slotsUsed).setVm hW'.alike, X.tail, State.WarmedH.trans X.warmed hW', X.limits, X.bytes, X.same.trans (hsame.setVm s.vm)⟩,
      ⟨g, mk, s₂, L, E, ce, rfl, rfl, hx, hce, hcv, hcl, rfl, hL, rfl, rfl⟩, ?_⟩
    show Steps p.tables e below _ (((({ U with heap := s₂.heap, slotsUsed := s₂.slotsUsed } : State).setVm s₂.vm).setTop g).pushFrame (.throwing q))
    rw [← hs₂]
    exact hsteps
end
variable {p : Program} {l : Launch} {e : Env} {R : Room} {s : State} {m : MethodId} {args : Array Value} {below : List Frame} {meth : Method} {c : Code} {T : State} {H : Heap} {locs : List Loc} {cells slots : Nat}
theorem vx_callVX (X : Stand p l e R s m args below meth c T locs cells slots) (hexec : p.tables.exec = Jvm.exec) {own C : String} {index : Nat} {y : MethodName} {bytes : ByteArray} {maxL : Nat} {ret : Option FieldType} {hh : List (Nat × Nat × Nat × Nat)}
    (hown : s.vm.findClass own = some m.cls) (hlink : (Cond.methodLink own index y).before args s = true) (hinst : (Cond.instanceMethod y).before args s = true) (hsel : (Cond.selects C y y).before args s = true)
    (hcode : (Cond.codeWith y bytes maxL ret hh).before args s = true) (hy : y.cls ≠ "java/lang/invoke/MethodHandle" ∧ y.cls ≠ "java/lang/invoke/VarHandle")
    {W9 : Nat} {Pre : Pt → Array Value → Prop} {Post : Pt → Array Value → Option Value → Pt → Prop} {PostX : Pt → Array Value → Addr → Pt → Prop} (hK : vx_Back l R p e below s args y 3 W9 Pre Post PostX)
    {b : Addr} {cellB : Cell} (hcell : T.heap[b]? = some cellB) (hobj : cellB.vm.isStatics = false) (hcls : s.vm.findClass C = some cellB.cls)
    {g : JFrame} (hg : g.method = m) (hsize : g.locals.size = c.maxLocals) {argsL rest : List Value} (hlen : ∀ sig, parseMethodDescriptor y.desc = some sig → argsL.length = sig.parameters.length)
    (hstack : g.stack = argsL.reverse ++ .ref b :: rest) (hW : 2 * g.monitorRoom + (rest.map fun v => v.category).sum ≤ W9) (hdg : decode c.code g.pc = .ok (.invokevirtual index, 3))
    (hpre : ∀ vm₁, s.WarmedH vm₁ → Pre ⟨T.setVm vm₁, locs, cells, slots⟩ (Value.ref b :: argsL).toArray) :
    (∃ (v : Option Value) (vm₁ : Vm) (B : Pt), s.WarmedH vm₁ ∧ Stand p l e R s m args below meth c B.U B.locs B.cells B.slots ∧ Post ⟨T.setVm vm₁, locs, cells, slots⟩ (Value.ref b :: argsL).toArray v B ∧
      ∀ target, Steps p.tables e below (B.U.setTop { g with pc := g.pc + 3, stack := v.toList ++ rest }) target → Steps p.tables e below (T.setTop g) target) ∨
    (∃ (q : Addr) (vm₁ : Vm) (B : Pt), s.WarmedH vm₁ ∧ Stand p l e R s m args below meth c B.U B.locs B.cells B.slots ∧ PostX ⟨T.setVm vm₁, locs, cells, slots⟩ (Value.ref b :: argsL).toArray q B ∧
      Steps p.tables e below (T.setTop g) ((B.U.setTop { g with stack := rest }).pushFrame (.throwing q))) := by
  obtain ⟨mk, methM, hnamed, hmethM, hstM, habM⟩ := Cond.instanceMethod_spec hinst
  obtain ⟨m8, methM', cM, hn8, hmethM', -, -, -, -, -, -, hsigM⟩ := Cond.codeWith_spec hcode
  cases Option.some.inj (hn8.symm.trans hnamed)
  cases hmethM.symm.trans hmethM'
  obtain ⟨c2, r2, m2, q1, q2, q3, q4, kP, hkP, hkPi⟩ := Cond.selects_spec hsel
  cases hcls.symm.trans q1
  cases (State.methodFound?_of_named hnamed hy).symm.trans q2
  cases hnamed.symm.trans q3
  have hselP : selectMethod e.platform s.vm cellB.cls mk = .method mk := by rw [Launch.admits_selectMethod X.admits]; exact q4
  obtain ⟨vm₁, X₁, hstep₁⟩ := X.invokevirtual hexec hown hlink hnamed hmethM hstM hkP hkPi hy (a := b) (cell := cellB) hcell
    (fun z h => by rw [h] at hobj; cases hobj) hselP hmethM habM hkP hkPi (g := g) hg (argsL := argsL) (rest := rest) (hlen _ hsigM) hstack hdg
  rcases hK m meth c ⟨T.setVm vm₁, locs, cells, slots⟩ { g with stack := rest } (.invokevirtual index) mk (Value.ref b :: argsL).toArray X₁ hg hsize hdg hW (X₁.named hnamed) (hpre vm₁ X₁.warmed) with ⟨v, B, X', hpost, hsteps⟩ | ⟨q, B, X', hpost, hsteps⟩
  · exact Or.inl ⟨v, vm₁, B, X₁.warmed, X', hpost, fun target h => hstep₁ _ fun acts => by rw [doInvoke_state]; exact hsteps.trans h⟩
  · exact Or.inr ⟨q, vm₁, B, X₁.warmed, X', hpost, hstep₁ _ fun acts => by rw [doInvoke_state]; exact hsteps⟩
theorem vx_callSX (X : Stand p l e R s m args below meth c T locs cells slots) (hexec : p.tables.exec = Jvm.exec) {own : String} {index : Nat} {y : MethodName} {bytes : ByteArray} {maxL : Nat} {ret : Option FieldType} {hh : List (Nat × Nat × Nat × Nat)}
    (hown : s.vm.findClass own = some m.cls) (hlink : (Cond.methodLink own index y).before args s = true) (hstat : (Cond.static y).before args s = true) (hinit : (Cond.initialized y.cls).before args s = true)
    (hcode : (Cond.codeWith y bytes maxL ret hh).before args s = true) (hy : y.cls ≠ "java/lang/invoke/MethodHandle" ∧ y.cls ≠ "java/lang/invoke/VarHandle")
    {W9 : Nat} {Pre : Pt → Array Value → Prop} {Post : Pt → Array Value → Option Value → Pt → Prop} {PostX : Pt → Array Value → Addr → Pt → Prop} (hK : vx_Back l R p e below s args y 3 W9 Pre Post PostX)
    {g : JFrame} (hg : g.method = m) (hsize : g.locals.size = c.maxLocals) {argsL rest : List Value} (hlen : ∀ sig, parseMethodDescriptor y.desc = some sig → argsL.length = sig.parameters.length)
    (hstack : g.stack = argsL.reverse ++ rest) (hW : 2 * g.monitorRoom + (rest.map fun v => v.category).sum ≤ W9) (hdg : decode c.code g.pc = .ok (.invokestatic index, 3))
    (hpre : ∀ vm₁, s.WarmedH vm₁ → Pre ⟨T.setVm vm₁, locs, cells, slots⟩ argsL.toArray) :
    (∃ (v : Option Value) (vm₁ : Vm) (B : Pt), s.WarmedH vm₁ ∧ Stand p l e R s m args below meth c B.U B.locs B.cells B.slots ∧ Post ⟨T.setVm vm₁, locs, cells, slots⟩ argsL.toArray v B ∧
      ∀ target, Steps p.tables e below (B.U.setTop { g with pc := g.pc + 3, stack := v.toList ++ rest }) target → Steps p.tables e below (T.setTop g) target) ∨
    (∃ (q : Addr) (vm₁ : Vm) (B : Pt), s.WarmedH vm₁ ∧ Stand p l e R s m args below meth c B.U B.locs B.cells B.slots ∧ PostX ⟨T.setVm vm₁, locs, cells, slots⟩ argsL.toArray q B ∧
      Steps p.tables e below (T.setTop g) ((B.U.setTop { g with stack := rest }).pushFrame (.throwing q))) := by
  obtain ⟨mk, methM, cM, hnamed, hmethM, -, -, -, -, -, -, hsigM⟩ := Cond.codeWith_spec hcode
  have hstatic : methM.isStatic = true := Cond.static_spec hnamed hmethM hstat
  obtain ⟨kP, hkP, -⟩ := className_of_methodNamed hnamed
  have hinitP : kP.init = .initialized := Cond.initialized_spec (findClass_of_methodNamed hnamed) hkP hinit
  obtain ⟨vm₁, X₁, hstep₁⟩ := X.invokestatic hexec hown hlink hnamed hmethM hstatic hkP hinitP hy (g := g) hg (argsL := argsL) (rest := rest) (hlen _ hsigM) hstack hdg
  rcases hK m meth c ⟨T.setVm vm₁, locs, cells, slots⟩ { g with stack := rest } (.invokestatic index) mk argsL.toArray X₁ hg hsize hdg hW (X₁.named hnamed) (hpre vm₁ X₁.warmed) with ⟨v, B, X', hpost, hsteps⟩ | ⟨q, B, X', hpost, hsteps⟩
  · exact Or.inl ⟨v, vm₁, B, X₁.warmed, X', hpost, fun target h => hstep₁ _ fun acts => by rw [doInvoke_state]; exact hsteps.trans h⟩
  · exact Or.inr ⟨q, vm₁, B, X₁.warmed, X', hpost, hstep₁ _ fun acts => by rw [doInvoke_state]; exact hsteps⟩
theorem vx_callVW (X : Stand p l e R s m args below meth c T locs cells slots) (hexec : p.tables.exec = Jvm.exec) {own C : String} {index : Nat} {y : MethodName} {bytes : ByteArray} {maxL : Nat} {ret : Option FieldType} {hh : List (Nat × Nat × Nat × Nat)}
    (hown : s.vm.findClass own = some m.cls) (hlink : (Cond.methodLink own index y).before args s = true) (hinst : (Cond.instanceMethod y).before args s = true) (hsel : (Cond.selects C y y).before args s = true)
    (hcode : (Cond.codeWith y bytes maxL ret hh).before args s = true) (hy : y.cls ≠ "java/lang/invoke/MethodHandle" ∧ y.cls ≠ "java/lang/invoke/VarHandle")
    {W9 : Nat} {Pre : Pt → Array Value → Prop} {Post : Pt → Array Value → Option Value → Pt → Prop} (hK : Back l R p e below s args y 3 W9 Pre Post)
    {b : Addr} {cellB : Cell} (hcell : T.heap[b]? = some cellB) (hobj : cellB.vm.isStatics = false) (hcls : s.vm.findClass C = some cellB.cls)
    {g : JFrame} (hg : g.method = m) (hsize : g.locals.size = c.maxLocals) {argsL rest : List Value} (hlen : ∀ sig, parseMethodDescriptor y.desc = some sig → argsL.length = sig.parameters.length)
    (hstack : g.stack = argsL.reverse ++ .ref b :: rest) (hW : 2 * g.monitorRoom + (rest.map fun v => v.category).sum ≤ W9) (hdg : decode c.code g.pc = .ok (.invokevirtual index, 3))
    (hpre : ∀ vm₁, s.WarmedH vm₁ → Pre ⟨T.setVm vm₁, locs, cells, slots⟩ (Value.ref b :: argsL).toArray) :
    ∃ (v : Option Value) (vm₁ : Vm) (B : Pt), s.WarmedH vm₁ ∧ Stand p l e R s m args below meth c B.U B.locs B.cells B.slots ∧ Post ⟨T.setVm vm₁, locs, cells, slots⟩ (Value.ref b :: argsL).toArray v B ∧
      ∀ target, Steps p.tables e below (B.U.setTop { g with pc := g.pc + 3, stack := v.toList ++ rest }) target → Steps p.tables e below (T.setTop g) target := by
  obtain ⟨mk, methM, hnamed, hmethM, hstM, habM⟩ := Cond.instanceMethod_spec hinst
  obtain ⟨m8, methM', cM, hn8, hmethM', -, -, -, -, -, -, hsigM⟩ := Cond.codeWith_spec hcode
  cases Option.some.inj (hn8.symm.trans hnamed)
  cases hmethM.symm.trans hmethM'
  obtain ⟨c2, r2, m2, q1, q2, q3, q4, kP, hkP, hkPi⟩ := Cond.selects_spec hsel
  cases hcls.symm.trans q1
  cases (State.methodFound?_of_named hnamed hy).symm.trans q2
  cases hnamed.symm.trans q3
  have hselP : selectMethod e.platform s.vm cellB.cls mk = .method mk := by rw [Launch.admits_selectMethod X.admits]; exact q4
  obtain ⟨vm₁, X₁, hstep₁⟩ := X.invokevirtual hexec hown hlink hnamed hmethM hstM hkP hkPi hy (a := b) (cell := cellB) hcell
    (fun z h => by rw [h] at hobj; cases hobj) hselP hmethM habM hkP hkPi (g := g) hg (argsL := argsL) (rest := rest) (hlen _ hsigM) hstack hdg
  obtain ⟨v, B, X', hpost, hsteps⟩ := hK m meth c ⟨T.setVm vm₁, locs, cells, slots⟩ { g with stack := rest } (.invokevirtual index) mk (Value.ref b :: argsL).toArray X₁ hg hsize hdg hW (X₁.named hnamed) (hpre vm₁ X₁.warmed)
  exact ⟨v, vm₁, B, X₁.warmed, X', hpost, fun target h => hstep₁ _ fun acts => by rw [doInvoke_state]; exact hsteps.trans h⟩
abbrev vx_CVW (R : Room) (s : State) (args : Array Value) (own C : String) (index : Nat) (y : MethodName) (bytes : ByteArray) (maxL : Nat) (ret : Option FieldType) (hh : List (Nat × Nat × Nat × Nat)) (ws : List Cond) (rm : Room) (mc ms n : Nat) : Prop :=
  (rm.cells = mc ∧ rm.slots = ms ∧ rm.frames + 1 ≤ R.frames ∧ 8 + (maxL + 11) + rm.locals ≤ R.locals ∧ (∀ w ∈ ws, ∀ (a' : Array Value) (U : State), s.WarmedH U.vm → w.before a' U = true) ∧ Cond.codeWith y bytes maxL ret hh ∈ ws) ∧
  (Cond.codeWith y bytes maxL ret hh).before args s = true ∧ (Cond.initialized y.cls).before args s = true ∧ (y.cls ≠ "java/lang/invoke/MethodHandle" ∧ y.cls ≠ "java/lang/invoke/VarHandle") ∧
  (∀ sig, parseMethodDescriptor y.desc = some sig → n = sig.parameters.length) ∧ (Cond.methodLink own index y).before args s = true ∧ (Cond.instanceMethod y).before args s = true ∧ (Cond.selects C y y).before args s = true
theorem vx_cwVW {own C : String} {index maxL mc ms : Nat} {y : MethodName} {bytes : ByteArray} {ret : Option FieldType} {hh : List (Nat × Nat × Nat × Nat)} {Ts ws ws' : List Cond} {rm : Room} (n : Nat) (ht : ∀ w ∈ Ts, w.before args s = true) (hT : GoodIn Ts (wsV own index C y ws)) (hw : ws = Cond.codeWith y bytes maxL ret hh :: ws') (hrc : rm.cells = mc) (hrs : rm.slots = ms)
    (hd : y.cls = C ∧ y.cls ≠ "java/lang/invoke/MethodHandle" ∧ y.cls ≠ "java/lang/invoke/VarHandle" ∧ (parseMethodDescriptor y.desc).map (fun d => d.parameters.length) = some n) (hR : rm.frames + 1 ≤ R.frames ∧ 8 + (maxL + 11) + rm.locals ≤ R.locals) :
    vx_CVW R s args own C index y bytes maxL ret hh ws rm mc ms n := by
  obtain ⟨hC, hd⟩ := hd
  subst hC
  have ok : ∀ w ∈ wsV own index y.cls y ws, w.before args s = true := fun w h => ht w (hT w h).1
  have hG : GoodIn Ts ws := fun w h => hT w (by unfold wsV; exact List.mem_append_right _ h)
  have hc : Cond.codeWith y bytes maxL ret hh ∈ ws := by rw [hw]; exact List.mem_cons_self
  refine ⟨⟨hrc, hrs, hR.1, hR.2, pay_in ht hG, hc⟩, ht _ (hG _ hc).1, ok _ (by simp [wsV]), ⟨hd.1, hd.2.1⟩, fun sig h => ?_, ok _ (by simp [wsV]), ok _ (by simp [wsV]), ok _ (by simp [wsV])⟩
  have h2 := hd.2.2
  rw [h] at h2
  exact (Option.some.inj h2).symm
theorem vx_runVW {y : MethodName} {bytes cc : ByteArray} {maxL nL mc ms n index : Nat} {ret : Option FieldType} {hh : List (Nat × Nat × Nat × Nat)} {ws : List Cond} {rm : Room} {Pc : Array Value → State → Prop} {Qc : Array Value → State → Outcome → State → Prop} {free : Addr → Prop} {Ts : List Cond} {own C : String} {b : Addr} {As rest : List Value} {g : JFrame}
    (S : CallFix p m c cc nL s args Ts own) (hM : Met l y ws rm Pc Qc mc ms free) (cw : vx_CVW R s args own C index y bytes maxL ret hh ws rm mc ms n) (hp : PreV s H C b Pc As)
    (hg : g.method = m) (hn : As.length = n) (hsize : g.locals.size = nL) (hstack : g.stack = As.reverse ++ .ref b :: rest) (hW : 2 * g.monitorRoom + (rest.map fun v => v.category).sum ≤ 8) (hdg : decode cc g.pc = .ok (.invokevirtual index, 3)) (hf : cells + mc ≤ R.cells ∧ slots + ms ≤ R.slots) :
    va_Run p l e R s m args below meth c H locs cells slots mc ms g rest (Qc (Value.ref b :: As).toArray) free := by
  obtain ⟨⟨hrc, hrs, hfr, hlo, hws, hcw⟩, hcode, hini, hy, hlen, hl, hin, hse⟩ := cw
  have hK : Back l R p e below s args y 3 8 (PreOf R mc ms Pc) (PostOf Qc mc ms free) := va_backW (hh := hh) (bytes := bytes) (maxL := maxL) (ret := ret) hM hp.1 hrc hrs hfr hlo hws hcw (fun a' U hW => word_at hW (Or.inl (by first | rfl | simp [Cond.onTables, Cond.keeps, Cond.steady])) hini)
  obtain ⟨hx, hb, hml, ho, -⟩ := S
  obtain ⟨-, ⟨cellB, hcB, hoB, hclB⟩, hPc⟩ := hp
  intro T hT X
  obtain ⟨v, vm₁, ⟨U', l2, c2, s2⟩, hW₁, X', ⟨g', mk, t, L, e1, e2, hq, h1, hL, h2, h3⟩, st⟩ := vx_callVW X hx (C := C) (hh := hh) (bytes := bytes) (maxL := maxL) (ret := ret) ho hl hin hse hcode hy hK (by rw [hT]; exact hcB) hoB hclB hg (hsize.trans hml.symm) (argsL := As) (rest := rest) (fun sig h => hn.trans (hlen sig h)) hstack hW (by rw [hb]; exact hdg)
    (fun vm₁ hW₁ => ⟨hf.1, hf.2, hPc (T.setVm vm₁) hT hW₁⟩)
  dsimp only [Pt.U, Pt.locs, Pt.cells, Pt.slots] at X' e1 e2 h1 h2 h3 st
  subst h1; subst h2; subst h3
  exact ⟨v, (T.setVm vm₁).calling g' mk (Value.ref b :: As).toArray, t, U', L, hT, X', hL, e1, e2, hq, st⟩
section
variable {y : MethodName} {bytes cc : ByteArray} {maxL nL mc ms n index : Nat} {ret : Option FieldType} {ws : List Cond} {rm : Room} {Pc : Array Value → State → Prop} {Qc : Array Value → State → Outcome → State → Prop} {XC : String → State → State → Prop} {free : Addr → Prop} {Ts : List Cond} {own C : String} {b : Addr} {As rest : List Value} {g : JFrame}
theorem vx_runVX {hh : List (Nat × Nat × Nat × Nat)} (S : CallFix p m c cc nL s args Ts own) (hM : vx_Met l y ws rm Pc Qc XC mc ms free) (cw : vx_CVW R s args own C index y bytes maxL ret hh ws rm mc ms n) (hp : PreV s H C b Pc As)
    (hg : g.method = m) (hn : As.length = n) (hsize : g.locals.size = nL) (hstack : g.stack = As.reverse ++ .ref b :: rest) (hW : 2 * g.monitorRoom + (rest.map fun v => v.category).sum ≤ 8) (hdg : decode cc g.pc = .ok (.invokevirtual index, 3)) (hf : cells + mc ≤ R.cells ∧ slots + ms ≤ R.slots) :
    vx_Run p l e R s m args below meth c H locs cells slots mc ms g rest (Qc (Value.ref b :: As).toArray) XC free := by
  obtain ⟨⟨hrc, hrs, hfr, hlo, hws, hcw⟩, hcode, hini, hy, hlen, hl, hin, hse⟩ := cw
  have hK : vx_Back l R p e below s args y 3 8 (PreOf R mc ms Pc) (PostOf Qc mc ms free) (vx_Post XC mc ms free) := vx_backW (hh := hh) (bytes := bytes) (maxL := maxL) (ret := ret) hM hp.1 hrc hrs hfr hlo hws hcw (fun a' U hW => word_at hW (Or.inl (by first | rfl | simp [Cond.onTables, Cond.keeps, Cond.steady])) hini)
  obtain ⟨hx, hb, hml, ho, -⟩ := S
  obtain ⟨-, ⟨cellB, hcB, hoB, hclB⟩, hPc⟩ := hp
  intro T hT X
  rcases vx_callVX X hx (C := C) (hh := hh) (bytes := bytes) (maxL := maxL) (ret := ret) ho hl hin hse hcode hy hK (by rw [hT]; exact hcB) hoB hclB hg (hsize.trans hml.symm) (argsL := As) (rest := rest) (fun sig h => hn.trans (hlen sig h)) hstack hW (by rw [hb]; exact hdg)
    (fun vm₁ hW₁ => ⟨hf.1, hf.2, hPc (T.setVm vm₁) hT hW₁⟩) with ⟨v, vm₁, ⟨U', l2, c2, s2⟩, hW₁, X', ⟨g', mk, t, L, e1, e2, hq, h1, hL, h2, h3⟩, st⟩ | ⟨q, vm₁, ⟨U', l2, c2, s2⟩, hW₁, X', ⟨g', mk, t, L, E, ce, e1, e2, hq, hce, hcv, hcl, h1, hL, h2, h3⟩, st⟩
  · dsimp only [Pt.U, Pt.locs, Pt.cells, Pt.slots] at X' e1 e2 h1 h2 h3 st
    subst h1; subst h2; subst h3
    exact Or.inl ⟨v, (T.setVm vm₁).calling g' mk (Value.ref b :: As).toArray, t, U', L, hT, X', hL, e1, e2, hq, st⟩
  · dsimp only [Pt.U, Pt.locs, Pt.cells, Pt.slots] at X' e1 e2 h1 h2 h3 st hcl
    subst h1; subst h2; subst h3
    exact Or.inr ⟨q, (T.setVm vm₁).calling g' mk (Value.ref b :: As).toArray, t, U', L, E, ce, hT, X', hL, e1, e2, hq, hce, hcv, vx_cls hW₁ hcl, st⟩
theorem vx_runSX {hh : List (Nat × Nat × Nat × Nat)} (S : CallFix p m c cc nL s args Ts own) (hM : vx_Met l y ws rm Pc Qc XC mc ms free) (cw : vx_CSW R s args own index y bytes maxL ret hh ws rm mc ms n) (hp : PreS s H Pc As)
    (hg : g.method = m) (hn : As.length = n) (hsize : g.locals.size = nL) (hstack : g.stack = As.reverse ++ rest) (hW : 2 * g.monitorRoom + (rest.map fun v => v.category).sum ≤ 8) (hdg : decode cc g.pc = .ok (.invokestatic index, 3)) (hf : cells + mc ≤ R.cells ∧ slots + ms ≤ R.slots) :
    vx_Run p l e R s m args below meth c H locs cells slots mc ms g rest (Qc As.toArray) XC free := by
  obtain ⟨⟨hrc, hrs, hfr, hlo, hws, hcw⟩, hcode, hini, hy, hlen, hl, hstt⟩ := cw
  have hK : vx_Back l R p e below s args y 3 8 (PreOf R mc ms Pc) (PostOf Qc mc ms free) (vx_Post XC mc ms free) := vx_backW (hh := hh) (bytes := bytes) (maxL := maxL) (ret := ret) hM hp.1 hrc hrs hfr hlo hws hcw (fun a' U hW => word_at hW (Or.inl (by first | rfl | simp [Cond.onTables, Cond.keeps, Cond.steady])) hini)
  obtain ⟨hx, hb, hml, ho, -⟩ := S
  intro T hT X
  rcases vx_callSX X hx (hh := hh) (bytes := bytes) (maxL := maxL) (ret := ret) ho hl hstt hini hcode hy hK hg (hsize.trans hml.symm) (argsL := As) (rest := rest) (fun sig h => hn.trans (hlen sig h)) hstack hW (by rw [hb]; exact hdg)
    (fun vm₁ hW₁ => ⟨hf.1, hf.2, hp.2 (T.setVm vm₁) hT hW₁⟩) with ⟨v, vm₁, ⟨U', l2, c2, s2⟩, hW₁, X', ⟨g', mk, t, L, e1, e2, hq, h1, hL, h2, h3⟩, st⟩ | ⟨q, vm₁, ⟨U', l2, c2, s2⟩, hW₁, X', ⟨g', mk, t, L, E, ce, e1, e2, hq, hce, hcv, hcl, h1, hL, h2, h3⟩, st⟩
  · dsimp only [Pt.U, Pt.locs, Pt.cells, Pt.slots] at X' e1 e2 h1 h2 h3 st
    subst h1; subst h2; subst h3
    exact Or.inl ⟨v, (T.setVm vm₁).calling g' mk As.toArray, t, U', L, hT, X', hL, e1, e2, hq, st⟩
  · dsimp only [Pt.U, Pt.locs, Pt.cells, Pt.slots] at X' e1 e2 h1 h2 h3 st hcl
    subst h1; subst h2; subst h3
    exact Or.inr ⟨q, (T.setVm vm₁).calling g' mk As.toArray, t, U', L, E, ce, hT, X', hL, e1, e2, hq, hce, hcv, vx_cls hW₁ hcl, st⟩
end
end VXH
theorem vx_ofWH {l : Launch} {y : MethodName} {ws ws' : List Cond} {rm : Room} {Pc : Array Value → State → Prop} {Qc : Array Value → State → Outcome → State → Prop} {XC : String → State → State → Prop} {mc ms : Nat} {free : Addr → Prop} {cc : ByteArray} {maxL : Nat} {ret : Option FieldType} {hh : List (Nat × Nat × Nat × Nat)}
    (hy : plainName y.cls = true) (hw : ws = Cond.codeWith y cc maxL ret hh :: ws')
    (body : ∀ p e s m args below meth c s₁, BodyLoose p l y (headSpec ws rm) cc maxL ret e s m args below meth c s₁ → c.maxLocals = maxL → Pc args s →
      W p l e (headSpec ws rm).room s m args below meth c s.heap [] 0 0 (vx_MQ below Qc XC args s mc ms free) (entryFrame m args maxL)) : vx_Met l y ws rm Pc Qc XC mc ms free := by
  refine MetFree.of_bodyS (code := cc) (maxLocals := maxL) (ret := ret) hy ?_ ?_
  · intro args s m h hn
    obtain ⟨m9, meth, c, hn9, h1, h2, h3, h4, -, h5, h6, -⟩ := Cond.codeWith_spec (atoms_spec (ws := ws) h _ (by rw [hw]; exact List.mem_cons_self))
    cases hn.symm.trans hn9
    exact ⟨meth, c, h1, h2, h3, h4, h5, h6⟩
  · intro p e s m args below meth c s₁ B hml hP _
    have hh0 : s₁.heap = s.heap := by rw [B.state]; rfl
    obtain ⟨t, a1, o, b1, b2, b3⟩ := body p e s m args below meth c s₁ B hml hP s₁ hh0 (Stand.of_body B)
    exact ⟨t, o, a1, b1, b2, b3⟩
/-! ===== END ===== -/
end
section
/-! ===== BEGIN printed: names, fields, word lists, decode rows ===== -/
def RX0 : String := "PinnedPantry$Row"
def TX0 : u_T := fun k => match k with
  | 0 => ("PinnedPantry$Row", "kinds", "[I", true)
  | _ => ("PinnedPantry$Row", "length", "I", false)
def tyX0 : Nat → FieldType := fun k => match k with
  | 0 => .array .int
  | _ => .int
abbrev wsX00 : List Cond := u_ws RX0 TX0 2
theorem nmX0 : ∀ a, a < 2 → ∀ b, b < 2 → a ≠ b → (TX0 a).2.1 ≠ (TX0 b).2.1 := by decide +kernel
theorem tyX0_ok : ∀ k, k < 2 → parseFieldDescriptor (TX0 k).2.2.1 = some (tyX0 k) := by decide +kernel
abbrev cX0_init : ByteArray := prog_2_method_1_code
def yX0_init : MethodName := ⟨RX0, "<init>", "()V"⟩
abbrev cX0_become : ByteArray := prog_2_method_2_code
def yX0_become : MethodName := ⟨RX0, "become", "(LPinnedPantry$Row;)V"⟩
abbrev cX0_at : ByteArray := prog_2_method_3_code
def yX0_at : MethodName := ⟨RX0, "at", "(I)I"⟩
abbrev cX0_placeOf : ByteArray := prog_2_method_4_code
def yX0_placeOf : MethodName := ⟨RX0, "placeOf", "(I)I"⟩
abbrev cX0_has : ByteArray := prog_2_method_5_code
def yX0_has : MethodName := ⟨RX0, "has", "(I)Z"⟩
abbrev cX0_append : ByteArray := prog_2_method_6_code
def yX0_append : MethodName := ⟨RX0, "append", "(I)V"⟩
abbrev cX0_takeOut : ByteArray := prog_2_method_7_code
def yX0_takeOut : MethodName := ⟨RX0, "takeOut", "(I)V"⟩
abbrev cX0_forgetEldest : ByteArray := prog_2_method_8_code
def yX0_forgetEldest : MethodName := ⟨RX0, "forgetEldest", "(I)V"⟩
abbrev cX0_digestKinds : ByteArray := prog_2_method_9_code
def yX0_digestKinds : MethodName := ⟨RX0, "digestKinds", "(J)J"⟩
def RX1 : String := "PinnedPantry$Store"
def TX1 : u_T := fun k => match k with
  | 0 => ("PinnedPantry$Store", "newRow", "LPinnedPantry$Row;", true)
  | 1 => ("PinnedPantry$Store", "triedRow", "LPinnedPantry$Row;", true)
  | 2 => ("PinnedPantry$Store", "newList", "LPinnedPantry$Row;", true)
  | 3 => ("PinnedPantry$Store", "triedList", "LPinnedPantry$Row;", true)
  | 4 => ("PinnedPantry$Store", "touches", "LPinnedPantry$Table;", true)
  | 5 => ("PinnedPantry$Store", "pins", "LPinnedPantry$Table;", true)
  | 6 => ("PinnedPantry$Store", "fetches", "LPinnedPantry$Table;", true)
  | 7 => ("PinnedPantry$Store", "places", "I", false)
  | 8 => ("PinnedPantry$Store", "goal", "I", false)
  | 9 => ("PinnedPantry$Store", "hits", "I", false)
  | 10 => ("PinnedPantry$Store", "misses", "I", false)
  | 11 => ("PinnedPantry$Store", "rememberedMisses", "I", false)
  | _ => ("PinnedPantry$Store", "looks", "I", false)
def tyX1 : Nat → FieldType := fun k => match k with
  | 0 => .object "PinnedPantry$Row"
  | 1 => .object "PinnedPantry$Row"
  | 2 => .object "PinnedPantry$Row"
  | 3 => .object "PinnedPantry$Row"
  | 4 => .object "PinnedPantry$Table"
  | 5 => .object "PinnedPantry$Table"
  | 6 => .object "PinnedPantry$Table"
  | 7 => .int
  | 8 => .int
  | 9 => .int
  | 10 => .int
  | 11 => .int
  | _ => .int
abbrev wsX10 : List Cond := u_ws RX1 TX1 13
theorem nmX1 : ∀ a, a < 13 → ∀ b, b < 13 → a ≠ b → (TX1 a).2.1 ≠ (TX1 b).2.1 := by decide +kernel
theorem tyX1_ok : ∀ k, k < 13 → parseFieldDescriptor (TX1 k).2.2.1 = some (tyX1 k) := by decide +kernel
abbrev cX1_init : ByteArray := prog_3_method_1_code
def yX1_init : MethodName := ⟨RX1, "<init>", "()V"⟩
abbrev cX1_become : ByteArray := prog_3_method_2_code
def yX1_become : MethodName := ⟨RX1, "become", "(LPinnedPantry$Store;)V"⟩
abbrev cX1_rowOf : ByteArray := prog_3_method_3_code
def yX1_rowOf : MethodName := ⟨RX1, "rowOf", "(I)LPinnedPantry$Row;"⟩
abbrev cX1_listOf : ByteArray := prog_3_method_4_code
def yX1_listOf : MethodName := ⟨RX1, "listOf", "(I)LPinnedPantry$Row;"⟩
abbrev cX1_hasJar : ByteArray := prog_3_method_5_code
def yX1_hasJar : MethodName := ⟨RX1, "hasJar", "(I)Z"⟩
abbrev cX1_jars : ByteArray := prog_3_method_6_code
def yX1_jars : MethodName := ⟨RX1, "jars", "()I"⟩
abbrev cX1_pinnedJars : ByteArray := prog_3_method_7_code
def yX1_pinnedJars : MethodName := ⟨RX1, "pinnedJars", "()I"⟩
abbrev cX1_pinnedOn : ByteArray := prog_3_method_8_code
def yX1_pinnedOn : MethodName := ⟨RX1, "pinnedOn", "(LPinnedPantry$Row;)I"⟩
abbrev cX1_forecast : ByteArray := prog_3_method_9_code
def yX1_forecast : MethodName := ⟨RX1, "forecast", "(I)I"⟩
abbrev cX1_bring : ByteArray := prog_3_method_10_code
def yX1_bring : MethodName := ⟨RX1, "bring", "(I)I"⟩
abbrev cX1_bringSeries : ByteArray := prog_3_method_11_code
def yX1_bringSeries : MethodName := ⟨RX1, "bringSeries", "(III)I"⟩
abbrev cX1_recall : ByteArray := prog_3_method_12_code
def yX1_recall : MethodName := ⟨RX1, "recall", "(II)V"⟩
abbrev cX1_turn : ByteArray := prog_3_method_13_code
def yX1_turn : MethodName := ⟨RX1, "turn", "(LPinnedPantry$Row;LPinnedPantry$Row;)I"⟩
abbrev cX1_placeNewJar : ByteArray := prog_3_method_14_code
def yX1_placeNewJar : MethodName := ⟨RX1, "placeNewJar", "(ILPinnedPantry$Row;)V"⟩
abbrev cX1_sweep : ByteArray := prog_3_method_15_code
def yX1_sweep : MethodName := ⟨RX1, "sweep", "()I"⟩
abbrev cX1_givingShelf : ByteArray := prog_3_method_16_code
def yX1_givingShelf : MethodName := ⟨RX1, "givingShelf", "()I"⟩
abbrev cX1_changePins : ByteArray := prog_3_method_17_code
def yX1_changePins : MethodName := ⟨RX1, "changePins", "(II)I"⟩
abbrev cX1_remove : ByteArray := prog_3_method_18_code
def yX1_remove : MethodName := ⟨RX1, "remove", "(I)I"⟩
abbrev cX1_resize : ByteArray := prog_3_method_19_code
def yX1_resize : MethodName := ⟨RX1, "resize", "(I)V"⟩
abbrev cX1_detail : ByteArray := prog_3_method_20_code
def yX1_detail : MethodName := ⟨RX1, "detail", "(II)I"⟩
abbrev cX1_tally : ByteArray := prog_3_method_21_code
def yX1_tally : MethodName := ⟨RX1, "tally", "(I)I"⟩
abbrev cX1_fetchesOfAll : ByteArray := prog_3_method_22_code
def yX1_fetchesOfAll : MethodName := ⟨RX1, "fetchesOfAll", "()I"⟩
abbrev cX1_digestJars : ByteArray := prog_3_method_23_code
def yX1_digestJars : MethodName := ⟨RX1, "digestJars", "(JLPinnedPantry$Row;)J"⟩
def RX2 : String := "PinnedPantry$Table"
def TX2 : u_T := fun k => match k with
  | _ => ("PinnedPantry$Table", "numbers", "[I", true)
def tyX2 : Nat → FieldType := fun k => match k with
  | _ => .array .int
abbrev wsX20 : List Cond := u_ws RX2 TX2 1
theorem nmX2 : ∀ a, a < 1 → ∀ b, b < 1 → a ≠ b → (TX2 a).2.1 ≠ (TX2 b).2.1 := by decide +kernel
theorem tyX2_ok : ∀ k, k < 1 → parseFieldDescriptor (TX2 k).2.2.1 = some (tyX2 k) := by decide +kernel
abbrev cX2_init : ByteArray := prog_4_method_1_code
def yX2_init : MethodName := ⟨RX2, "<init>", "()V"⟩
abbrev cX2_become : ByteArray := prog_4_method_2_code
def yX2_become : MethodName := ⟨RX2, "become", "(LPinnedPantry$Table;)V"⟩
abbrev cX2_of : ByteArray := prog_4_method_3_code
def yX2_of : MethodName := ⟨RX2, "of", "(I)I"⟩
abbrev cX2_put : ByteArray := prog_4_method_4_code
def yX2_put : MethodName := ⟨RX2, "put", "(II)V"⟩
def RX3 : String := "PinnedPantry"
def TX3 : u_T := fun k => match k with
  | 0 => ("PinnedPantry", "store", "LPinnedPantry$Store;", true)
  | _ => ("PinnedPantry", "rehearsal", "LPinnedPantry$Store;", true)
def tyX3 : Nat → FieldType := fun k => match k with
  | 0 => .object "PinnedPantry$Store"
  | _ => .object "PinnedPantry$Store"
abbrev wsX30 : List Cond := u_ws RX3 TX3 2
theorem nmX3 : ∀ a, a < 2 → ∀ b, b < 2 → a ≠ b → (TX3 a).2.1 ≠ (TX3 b).2.1 := by decide +kernel
theorem tyX3_ok : ∀ k, k < 2 → parseFieldDescriptor (TX3 k).2.2.1 = some (tyX3 k) := by decide +kernel
abbrev cX3_init : ByteArray := prog_1_method_1_code
def yX3_init : MethodName := ⟨RX3, "<init>", "()V"⟩
abbrev cX3_fetch : ByteArray := prog_1_method_2_code
def yX3_fetch : MethodName := ⟨RX3, "fetch", "(I)I"⟩
abbrev cX3_fetchAll : ByteArray := prog_1_method_3_code
def yX3_fetchAll : MethodName := ⟨RX3, "fetchAll", "(III)I"⟩
abbrev cX3_pin : ByteArray := prog_1_method_4_code
def yX3_pin : MethodName := ⟨RX3, "pin", "(I)I"⟩
abbrev cX3_unpin : ByteArray := prog_1_method_5_code
def yX3_unpin : MethodName := ⟨RX3, "unpin", "(I)I"⟩
abbrev cX3_eat : ByteArray := prog_1_method_6_code
def yX3_eat : MethodName := ⟨RX3, "eat", "(I)I"⟩
abbrev cX3_setPlaces : ByteArray := prog_1_method_7_code
def yX3_setPlaces : MethodName := ⟨RX3, "setPlaces", "(I)I"⟩
abbrev cX3_setGoal : ByteArray := prog_1_method_8_code
def yX3_setGoal : MethodName := ⟨RX3, "setGoal", "(I)I"⟩
abbrev cX3_jar : ByteArray := prog_1_method_9_code
def yX3_jar : MethodName := ⟨RX3, "jar", "(II)I"⟩
abbrev cX3_shelf : ByteArray := prog_1_method_10_code
def yX3_shelf : MethodName := ⟨RX3, "shelf", "(II)I"⟩
abbrev cX3_ghost : ByteArray := prog_1_method_11_code
def yX3_ghost : MethodName := ⟨RX3, "ghost", "(II)I"⟩
abbrev cX3_count : ByteArray := prog_1_method_12_code
def yX3_count : MethodName := ⟨RX3, "count", "(I)I"⟩
abbrev cX3_next : ByteArray := prog_1_method_13_code
def yX3_next : MethodName := ⟨RX3, "next", "()I"⟩
abbrev cX3_would : ByteArray := prog_1_method_14_code
def yX3_would : MethodName := ⟨RX3, "would", "(I)I"⟩
abbrev cX3_trial : ByteArray := prog_1_method_15_code
def yX3_trial : MethodName := ⟨RX3, "trial", "(III)I"⟩
abbrev cX3_advise : ByteArray := prog_1_method_16_code
def yX3_advise : MethodName := ⟨RX3, "advise", "(III)I"⟩
abbrev cX3_mean : ByteArray := prog_1_method_17_code
def yX3_mean : MethodName := ⟨RX3, "mean", "()D"⟩
abbrev cX3_digest : ByteArray := prog_1_method_18_code
def yX3_digest : MethodName := ⟨RX3, "digest", "()J"⟩
abbrev cX3_requireKind : ByteArray := prog_1_method_19_code
def yX3_requireKind : MethodName := ⟨RX3, "requireKind", "(I)V"⟩
abbrev cX3_requireSeries : ByteArray := prog_1_method_20_code
def yX3_requireSeries : MethodName := ⟨RX3, "requireSeries", "(III)V"⟩
abbrev cX3_requireShelf : ByteArray := prog_1_method_21_code
def yX3_requireShelf : MethodName := ⟨RX3, "requireShelf", "(I)V"⟩
abbrev cX3_requireAt : ByteArray := prog_1_method_22_code
def yX3_requireAt : MethodName := ⟨RX3, "requireAt", "(LPinnedPantry$Row;I)I"⟩
abbrev cX3_requireJar : ByteArray := prog_1_method_23_code
def yX3_requireJar : MethodName := ⟨RX3, "requireJar", "(I)V"⟩
def RX4 : String := "PinnedPantryModel"
def TX4 : u_T := fun k => match k with
  | 0 => ("PinnedPantryModel", "thrown", "I", false)
  | 1 => ("PinnedPantryModel", "jars", "[I", true)
  | 2 => ("PinnedPantryModel", "shelves", "[I", true)
  | 3 => ("PinnedPantryModel", "lists", "[I", true)
  | _ => ("PinnedPantryModel", "numbers", "[I", true)
def tyX4 : Nat → FieldType := fun k => match k with
  | 0 => .int
  | 1 => .array .int
  | 2 => .array .int
  | 3 => .array .int
  | _ => .array .int
abbrev wsX40 : List Cond := u_ws RX4 TX4 5
theorem nmX4 : ∀ a, a < 5 → ∀ b, b < 5 → a ≠ b → (TX4 a).2.1 ≠ (TX4 b).2.1 := by decide +kernel
theorem tyX4_ok : ∀ k, k < 5 → parseFieldDescriptor (TX4 k).2.2.1 = some (tyX4 k) := by decide +kernel
abbrev cX4_init : ByteArray := prog_6_method_1_code
def yX4_init : MethodName := ⟨RX4, "<init>", "()V"⟩
abbrev cX4_thrown : ByteArray := prog_6_method_2_code
def yX4_thrown : MethodName := ⟨RX4, "thrown", "()I"⟩
abbrev cX4_fail : ByteArray := prog_6_method_3_code
def yX4_fail : MethodName := ⟨RX4, "fail", "(I)I"⟩
abbrev cX4_isIn : ByteArray := prog_6_method_4_code
def yX4_isIn : MethodName := ⟨RX4, "isIn", "(III)Z"⟩
abbrev cX4_isKind : ByteArray := prog_6_method_5_code
def yX4_isKind : MethodName := ⟨RX4, "isKind", "(I)Z"⟩
abbrev cX4_ja : ByteArray := prog_6_method_6_code
def yX4_ja : MethodName := ⟨RX4, "ja", "(II)I"⟩
abbrev cX4_isThere : ByteArray := prog_6_method_7_code
def yX4_isThere : MethodName := ⟨RX4, "isThere", "(I)Z"⟩
abbrev cX4_many : ByteArray := prog_6_method_8_code
def yX4_many : MethodName := ⟨RX4, "many", "(I)I"⟩
abbrev cX4_all : ByteArray := prog_6_method_9_code
def yX4_all : MethodName := ⟨RX4, "all", "()I"⟩
abbrev cX4_kindAt : ByteArray := prog_6_method_10_code
def yX4_kindAt : MethodName := ⟨RX4, "kindAt", "(II)I"⟩
abbrev cX4_listed : ByteArray := prog_6_method_11_code
def yX4_listed : MethodName := ⟨RX4, "listed", "(I)I"⟩
abbrev cX4_listedAt : ByteArray := prog_6_method_12_code
def yX4_listedAt : MethodName := ⟨RX4, "listedAt", "(II)I"⟩
abbrev cX4_putLast : ByteArray := prog_6_method_13_code
def yX4_putLast : MethodName := ⟨RX4, "putLast", "(II)V"⟩
abbrev cX4_takeOut : ByteArray := prog_6_method_14_code
def yX4_takeOut : MethodName := ⟨RX4, "takeOut", "(II)V"⟩
abbrev cX4_takeOff : ByteArray := prog_6_method_15_code
def yX4_takeOff : MethodName := ⟨RX4, "takeOff", "(II)V"⟩
abbrev cX4_forget : ByteArray := prog_6_method_16_code
def yX4_forget : MethodName := ⟨RX4, "forget", "(I)V"⟩
abbrev cX4_remember : ByteArray := prog_6_method_17_code
def yX4_remember : MethodName := ⟨RX4, "remember", "(II)V"⟩
abbrev cX4_listPlace : ByteArray := prog_6_method_18_code
def yX4_listPlace : MethodName := ⟨RX4, "listPlace", "(II)I"⟩
abbrev cX4_placeOf : ByteArray := prog_6_method_19_code
def yX4_placeOf : MethodName := ⟨RX4, "placeOf", "(I)I"⟩
abbrev cX4_pinned : ByteArray := prog_6_method_20_code
def yX4_pinned : MethodName := ⟨RX4, "pinned", "()I"⟩
abbrev cX4_canGive : ByteArray := prog_6_method_21_code
def yX4_canGive : MethodName := ⟨RX4, "canGive", "(I)Z"⟩
abbrev cX4_sweep : ByteArray := prog_6_method_22_code
def yX4_sweep : MethodName := ⟨RX4, "sweep", "()I"⟩
abbrev cX4_canFetch : ByteArray := prog_6_method_23_code
def yX4_canFetch : MethodName := ⟨RX4, "canFetch", "(I)Z"⟩
abbrev cX4_listOf : ByteArray := prog_6_method_24_code
def yX4_listOf : MethodName := ⟨RX4, "listOf", "(I)I"⟩
abbrev cX4_told : ByteArray := prog_6_method_25_code
def yX4_told : MethodName := ⟨RX4, "told", "(I)I"⟩
abbrev cX4_fetched : ByteArray := prog_6_method_26_code
def yX4_fetched : MethodName := ⟨RX4, "fetched", "(I)I"⟩
abbrev cX4_fetch : ByteArray := prog_6_method_27_code
def yX4_fetch : MethodName := ⟨RX4, "fetch", "(I)I"⟩
abbrev cX4_hits : ByteArray := prog_6_method_28_code
def yX4_hits : MethodName := ⟨RX4, "hits", "(III)I"⟩
abbrev cX4_wrong : ByteArray := prog_6_method_29_code
def yX4_wrong : MethodName := ⟨RX4, "wrong", "(III)I"⟩
abbrev cX4_fetchAll : ByteArray := prog_6_method_30_code
def yX4_fetchAll : MethodName := ⟨RX4, "fetchAll", "(III)I"⟩
abbrev cX4_pin : ByteArray := prog_6_method_31_code
def yX4_pin : MethodName := ⟨RX4, "pin", "(I)I"⟩
abbrev cX4_unpin : ByteArray := prog_6_method_32_code
def yX4_unpin : MethodName := ⟨RX4, "unpin", "(I)I"⟩
abbrev cX4_eat : ByteArray := prog_6_method_33_code
def yX4_eat : MethodName := ⟨RX4, "eat", "(I)I"⟩
abbrev cX4_place : ByteArray := prog_6_method_34_code
def yX4_place : MethodName := ⟨RX4, "place", "(I)V"⟩
abbrev cX4_setPlaces : ByteArray := prog_6_method_35_code
def yX4_setPlaces : MethodName := ⟨RX4, "setPlaces", "(I)I"⟩
abbrev cX4_setGoal : ByteArray := prog_6_method_36_code
def yX4_setGoal : MethodName := ⟨RX4, "setGoal", "(I)I"⟩
abbrev cX4_jar : ByteArray := prog_6_method_37_code
def yX4_jar : MethodName := ⟨RX4, "jar", "(II)I"⟩
abbrev cX4_shelf : ByteArray := prog_6_method_38_code
def yX4_shelf : MethodName := ⟨RX4, "shelf", "(II)I"⟩
abbrev cX4_ghost : ByteArray := prog_6_method_39_code
def yX4_ghost : MethodName := ⟨RX4, "ghost", "(II)I"⟩
abbrev cX4_counted : ByteArray := prog_6_method_40_code
def yX4_counted : MethodName := ⟨RX4, "counted", "(I)I"⟩
abbrev cX4_count : ByteArray := prog_6_method_41_code
def yX4_count : MethodName := ⟨RX4, "count", "(I)I"⟩
abbrev cX4_kept : ByteArray := prog_6_method_42_code
def yX4_kept : MethodName := ⟨RX4, "kept", "()[[I"⟩
abbrev cX4_bringBack : ByteArray := prog_6_method_43_code
def yX4_bringBack : MethodName := ⟨RX4, "bringBack", "([[I)V"⟩
abbrev cX4_next : ByteArray := prog_6_method_44_code
def yX4_next : MethodName := ⟨RX4, "next", "()I"⟩
abbrev cX4_would : ByteArray := prog_6_method_45_code
def yX4_would : MethodName := ⟨RX4, "would", "(I)I"⟩
abbrev cX4_trial : ByteArray := prog_6_method_46_code
def yX4_trial : MethodName := ⟨RX4, "trial", "(III)I"⟩
abbrev cX4_advise : ByteArray := prog_6_method_47_code
def yX4_advise : MethodName := ⟨RX4, "advise", "(III)I"⟩
abbrev cX4_mean : ByteArray := prog_6_method_48_code
def yX4_mean : MethodName := ⟨RX4, "mean", "()D"⟩
abbrev cX4_digest : ByteArray := prog_6_method_49_code
def yX4_digest : MethodName := ⟨RX4, "digest", "()J"⟩
def RJx8e188 : String := "java/lang/Cloneable"
def TJx8e188 : u_T := fun k => match k with
  | _ => ("", "", "", false)
def tyJx8e188 : Nat → FieldType := fun k => match k with
  | _ => .int
theorem nmJx8e188 : ∀ a, a < 0 → ∀ b, b < 0 → a ≠ b → (TJx8e188 a).2.1 ≠ (TJx8e188 b).2.1 := by decide +kernel
theorem tyJx8e188_ok : ∀ k, k < 0 → parseFieldDescriptor (TJx8e188 k).2.2.1 = some (tyJx8e188 k) := by decide +kernel
def RJ9 : String := "java/lang/Math"
def TJ9 : u_T := fun k => match k with
  | _ => ("", "", "", false)
def tyJ9 : Nat → FieldType := fun k => match k with
  | _ => .int
theorem nmJ9 : ∀ a, a < 0 → ∀ b, b < 0 → a ≠ b → (TJ9 a).2.1 ≠ (TJ9 b).2.1 := by decide +kernel
theorem tyJ9_ok : ∀ k, k < 0 → parseFieldDescriptor (TJ9 k).2.2.1 = some (tyJ9 k) := by decide +kernel
abbrev cJ9_max_7cf53 : ByteArray := prog_12_method_65_code
def yJ9_max_7cf53 : MethodName := ⟨RJ9, "max", "(II)I"⟩
abbrev cJ9_min_7cf53 : ByteArray := prog_12_method_69_code
def yJ9_min_7cf53 : MethodName := ⟨RJ9, "min", "(II)I"⟩
def RJ0 : String := "java/lang/String"
def TJ0 : u_T := fun k => match k with
  | _ => ("", "", "", false)
def tyJ0 : Nat → FieldType := fun k => match k with
  | _ => .int
theorem nmJ0 : ∀ a, a < 0 → ∀ b, b < 0 → a ≠ b → (TJ0 a).2.1 ≠ (TJ0 b).2.1 := by decide +kernel
theorem tyJ0_ok : ∀ k, k < 0 → parseFieldDescriptor (TJ0 k).2.2.1 = some (tyJ0 k) := by decide +kernel
def RJ10 : String := "java/lang/System"
def TJ10 : u_T := fun k => match k with
  | _ => ("", "", "", false)
def tyJ10 : Nat → FieldType := fun k => match k with
  | _ => .int
theorem nmJ10 : ∀ a, a < 0 → ∀ b, b < 0 → a ≠ b → (TJ10 a).2.1 ≠ (TJ10 b).2.1 := by decide +kernel
theorem tyJ10_ok : ∀ k, k < 0 → parseFieldDescriptor (TJ10 k).2.2.1 = some (tyJ10 k) := by decide +kernel
def RL : String := "PinnedPantryLaw"
abbrev cL_fetch : ByteArray := method_3_code
def yL_fetch : MethodName := ⟨RL, "fetch", "(LPinnedPantry;I[J)I"⟩
abbrev cL_fetchAll : ByteArray := method_4_code
def yL_fetchAll : MethodName := ⟨RL, "fetchAll", "(LPinnedPantry;III[J)I"⟩
abbrev cL_pin : ByteArray := method_5_code
def yL_pin : MethodName := ⟨RL, "pin", "(LPinnedPantry;I[J)I"⟩
abbrev cL_unpin : ByteArray := method_6_code
def yL_unpin : MethodName := ⟨RL, "unpin", "(LPinnedPantry;I[J)I"⟩
abbrev cL_eat : ByteArray := method_7_code
def yL_eat : MethodName := ⟨RL, "eat", "(LPinnedPantry;I[J)I"⟩
abbrev cL_setPlaces : ByteArray := method_8_code
def yL_setPlaces : MethodName := ⟨RL, "setPlaces", "(LPinnedPantry;I[J)I"⟩
abbrev cL_setGoal : ByteArray := method_9_code
def yL_setGoal : MethodName := ⟨RL, "setGoal", "(LPinnedPantry;I[J)I"⟩
abbrev cL_jar : ByteArray := method_10_code
def yL_jar : MethodName := ⟨RL, "jar", "(LPinnedPantry;II[J)I"⟩
abbrev cL_shelf : ByteArray := method_11_code
def yL_shelf : MethodName := ⟨RL, "shelf", "(LPinnedPantry;II[J)I"⟩
abbrev cL_ghost : ByteArray := method_12_code
def yL_ghost : MethodName := ⟨RL, "ghost", "(LPinnedPantry;II[J)I"⟩
abbrev cL_count : ByteArray := method_13_code
def yL_count : MethodName := ⟨RL, "count", "(LPinnedPantry;I[J)I"⟩
abbrev cL_would : ByteArray := method_14_code
def yL_would : MethodName := ⟨RL, "would", "(LPinnedPantry;I[J)I"⟩
abbrev cL_trial : ByteArray := method_15_code
def yL_trial : MethodName := ⟨RL, "trial", "(LPinnedPantry;III[J)I"⟩
abbrev cL_advise : ByteArray := method_16_code
def yL_advise : MethodName := ⟨RL, "advise", "(LPinnedPantry;III[J)I"⟩
abbrev cL_law : ByteArray := code
def yL_law : MethodName := ⟨RL, "law", "([I)Z"⟩
def wsL_law0_r1 : List Cond := [Cond.classLink RL 8 RX3, Cond.instantiable RX3 2, Cond.initialized RX3, Cond.classLink RL 61 RX4, Cond.instantiable RX4 5, Cond.initialized RX4, Cond.arrayClass .long, Cond.methodLink RL 60 yX3_init, Cond.instanceMethod yX3_init, Cond.code yX3_init cX3_init 1 none, Cond.methodLink RX3 1 objectInit, Cond.instanceMethod objectInit, Cond.code objectInit ⟨#[0xb1]⟩ 1 none, Cond.classLink RX3 7 RX1, Cond.instantiable RX1 13, Cond.initialized RX1, Cond.fieldLink RX3 10 "PinnedPantry" "store" "LPinnedPantry$Store;", Cond.fieldLink RX3 16 "PinnedPantry" "rehearsal" "LPinnedPantry$Store;", Cond.methodLink RX3 9 yX1_init, Cond.instanceMethod yX1_init, Cond.code yX1_init cX1_init 1 none, Cond.methodLink RX1 3 objectInit, Cond.classLink RX1 9 RX0, Cond.instantiable RX0 2]
def wsL_law0_r2 : List Cond := [Cond.initialized RX0, Cond.fieldLink RX1 12 "PinnedPantry$Store" "newRow" "LPinnedPantry$Row;", Cond.fieldLink RX1 18 "PinnedPantry$Store" "triedRow" "LPinnedPantry$Row;", Cond.fieldLink RX1 21 "PinnedPantry$Store" "newList" "LPinnedPantry$Row;", Cond.fieldLink RX1 24 "PinnedPantry$Store" "triedList" "LPinnedPantry$Row;", Cond.classLink RX1 27 RX2, Cond.instantiable RX2 1, Cond.initialized RX2, Cond.fieldLink RX1 30 "PinnedPantry$Store" "touches" "LPinnedPantry$Table;", Cond.fieldLink RX1 34 "PinnedPantry$Store" "pins" "LPinnedPantry$Table;", Cond.fieldLink RX1 37 "PinnedPantry$Store" "fetches" "LPinnedPantry$Table;", Cond.fieldLink RX1 40 "PinnedPantry$Store" "places" "I", Cond.methodLink RX1 11 yX0_init, Cond.instanceMethod yX0_init, Cond.code yX0_init cX0_init 1 none, Cond.methodLink RX0 3 objectInit, Cond.arrayClass .int, Cond.fieldLink RX0 9 "PinnedPantry$Row" "kinds" "[I", Cond.fieldLink RX0 15 "PinnedPantry$Row" "length" "I", Cond.methodLink RX1 29 yX2_init, Cond.instanceMethod yX2_init, Cond.code yX2_init cX2_init 1 none, Cond.methodLink RX2 3 objectInit, Cond.fieldLink RX2 9 "PinnedPantry$Table" "numbers" "[I"]
def wsL_law0_r3 : List Cond := [Cond.methodLink RL 63 yX4_init, Cond.instanceMethod yX4_init, Cond.code yX4_init cX4_init 2 none, Cond.methodLink RX4 1 objectInit, Cond.fieldLink RX4 9 "PinnedPantryModel" "jars" "[I", Cond.fieldLink RX4 13 "PinnedPantryModel" "shelves" "[I", Cond.fieldLink RX4 16 "PinnedPantryModel" "lists" "[I", Cond.fieldLink RX4 19 "PinnedPantryModel" "numbers" "[I", Cond.methodLink RL 64 yL_fetch, Cond.static yL_fetch, Cond.initialized RL, Cond.codeWith yL_fetch cL_fetch 4 (some .int) [(0, 9, 12, 13), (0, 9, 15, 15)], Cond.classLink RL 13 "java/lang/IndexOutOfBoundsException", Cond.classLink RL 15 "java/lang/IllegalStateException", Cond.methodLink RL 7 yX3_fetch, Cond.instanceMethod yX3_fetch, Cond.selects RX3 yX3_fetch yX3_fetch, Cond.code yX3_fetch cX3_fetch 3 (some .int), Cond.classLink RX3 27 "java/lang/IllegalStateException", Cond.initialized "java/lang/IllegalStateException", Cond.methodLink RX3 19 yX3_requireKind, Cond.static yX3_requireKind, Cond.code yX3_requireKind cX3_requireKind 1 none, Cond.classLink RX3 90 "java/lang/IndexOutOfBoundsException"]
def wsL_law0_r4 : List Cond := [Cond.initialized "java/lang/IndexOutOfBoundsException", Cond.methodLink RX3 23 yX1_bring, Cond.instanceMethod yX1_bring, Cond.selects RX1 yX1_bring yX1_bring, Cond.code yX1_bring cX1_bring 3 (some .int), Cond.fieldLink RX1 54 "PinnedPantry$Store" "hits" "I", Cond.fieldLink RX1 57 "PinnedPantry$Store" "misses" "I", Cond.methodLink RX1 94 yX1_forecast, Cond.instanceMethod yX1_forecast, Cond.selects RX1 yX1_forecast yX1_forecast, Cond.code yX1_forecast cX1_forecast 2 (some .int), Cond.methodLink RX1 84 yX1_hasJar, Cond.instanceMethod yX1_hasJar, Cond.selects RX1 yX1_hasJar yX1_hasJar, Cond.code yX1_hasJar cX1_hasJar 2 (some .boolean), Cond.methodLink RX1 66 yX0_has, Cond.instanceMethod yX0_has, Cond.selects RX0 yX0_has yX0_has, Cond.code yX0_has cX0_has 2 (some .boolean), Cond.methodLink RX0 19 yX0_placeOf, Cond.instanceMethod yX0_placeOf, Cond.selects RX0 yX0_placeOf yX0_placeOf, Cond.code yX0_placeOf cX0_placeOf 3 (some .int), Cond.methodLink RX1 87 yX1_jars]
def wsL_law0_r5 : List Cond := [Cond.instanceMethod yX1_jars, Cond.selects RX1 yX1_jars yX1_jars, Cond.code yX1_jars cX1_jars 1 (some .int), Cond.methodLink RX1 91 yX1_pinnedJars, Cond.instanceMethod yX1_pinnedJars, Cond.selects RX1 yX1_pinnedJars yX1_pinnedJars, Cond.code yX1_pinnedJars cX1_pinnedJars 1 (some .int), Cond.methodLink RX1 73 yX1_pinnedOn, Cond.instanceMethod yX1_pinnedOn, Cond.selects RX1 yX1_pinnedOn yX1_pinnedOn, Cond.code yX1_pinnedOn cX1_pinnedOn 4 (some .int), Cond.methodLink RX1 77 yX0_at, Cond.instanceMethod yX0_at, Cond.selects RX0 yX0_at yX0_at, Cond.code yX0_at cX0_at 2 (some .int), Cond.methodLink RX1 81 yX2_of, Cond.instanceMethod yX2_of, Cond.selects RX2 yX2_of yX2_of, Cond.code yX2_of cX2_of 2 (some .int), Cond.methodLink RX1 97 yX2_put, Cond.instanceMethod yX2_put, Cond.selects RX2 yX2_put yX2_put, Cond.code yX2_put cX2_put 3 none, Cond.methodLink RX1 101 yX1_recall]
def wsL_law0_r6 : List Cond := [Cond.instanceMethod yX1_recall, Cond.selects RX1 yX1_recall yX1_recall, Cond.code yX1_recall cX1_recall 3 none, Cond.fieldLink RX1 51 "PinnedPantry$Store" "goal" "I", Cond.methodLink RX1 118 Lib.Math.min.name, Cond.static Lib.Math.min.name, Cond.initialized "java/lang/Math", Cond.code Lib.Math.min.name Lib.Math.min.code 2 (some .int), Cond.fieldLink RX1 60 "PinnedPantry$Store" "rememberedMisses" "I", Cond.methodLink RX1 131 Lib.Math.max.name, Cond.static Lib.Math.max.name, Cond.code Lib.Math.max.name Lib.Math.max.code 2 (some .int), Cond.methodLink RX1 114 yX1_turn, Cond.static yX1_turn, Cond.code yX1_turn cX1_turn 3 (some .int), Cond.methodLink RX1 124 yX0_placeOf, Cond.methodLink RX1 127 yX0_takeOut, Cond.instanceMethod yX0_takeOut, Cond.selects RX0 yX0_takeOut yX0_takeOut, Cond.code yX0_takeOut cX0_takeOut 3 none, Cond.methodLink RX1 104 yX1_sweep, Cond.instanceMethod yX1_sweep, Cond.selects RX1 yX1_sweep yX1_sweep, Cond.code yX1_sweep cX1_sweep 5 (some .int)]
def wsL_law0_r7 : List Cond := [Cond.constant RX1 137 (1000000), Cond.fieldLink RX1 63 "PinnedPantry$Store" "looks" "I", Cond.methodLink RX1 138 yX1_givingShelf, Cond.instanceMethod yX1_givingShelf, Cond.selects RX1 yX1_givingShelf yX1_givingShelf, Cond.code yX1_givingShelf cX1_givingShelf 4 (some .int), Cond.methodLink RX1 141 yX1_rowOf, Cond.instanceMethod yX1_rowOf, Cond.selects RX1 yX1_rowOf yX1_rowOf, Cond.code yX1_rowOf cX1_rowOf 2 (some (.object "PinnedPantry$Row")), Cond.methodLink RX1 134 yX0_append, Cond.instanceMethod yX0_append, Cond.selects RX0 yX0_append yX0_append, Cond.code yX0_append cX0_append 2 none, Cond.methodLink RX1 145 yX1_listOf, Cond.instanceMethod yX1_listOf, Cond.selects RX1 yX1_listOf yX1_listOf, Cond.code yX1_listOf cX1_listOf 2 (some (.object "PinnedPantry$Row")), Cond.methodLink RX1 148 yX0_forgetEldest, Cond.instanceMethod yX0_forgetEldest, Cond.selects RX0 yX0_forgetEldest yX0_forgetEldest, Cond.code yX0_forgetEldest cX0_forgetEldest 3 none, Cond.methodLink RX0 23 yX0_takeOut, Cond.methodLink RX1 107 yX1_placeNewJar]
def wsL_law0_r8 : List Cond := [Cond.instanceMethod yX1_placeNewJar, Cond.selects RX1 yX1_placeNewJar yX1_placeNewJar, Cond.code yX1_placeNewJar cX1_placeNewJar 3 none, Cond.methodLink RL 69 yX4_fetch, Cond.instanceMethod yX4_fetch, Cond.selects RX4 yX4_fetch yX4_fetch, Cond.code yX4_fetch cX4_fetch 2 (some .int), Cond.fieldLink RX4 22 "PinnedPantryModel" "thrown" "I", Cond.methodLink RX4 101 yX4_isKind, Cond.static yX4_isKind, Cond.code yX4_isKind cX4_isKind 1 (some .boolean), Cond.methodLink RX4 26 yX4_isIn, Cond.static yX4_isIn, Cond.code yX4_isIn cX4_isIn 3 (some .boolean), Cond.methodLink RX4 104 yX4_fail, Cond.instanceMethod yX4_fail, Cond.selects RX4 yX4_fail yX4_fail, Cond.code yX4_fail cX4_fail 2 (some .int), Cond.methodLink RX4 107 yX4_canFetch, Cond.instanceMethod yX4_canFetch, Cond.selects RX4 yX4_canFetch yX4_canFetch, Cond.code yX4_canFetch cX4_canFetch 2 (some .boolean), Cond.methodLink RX4 61 yX4_isThere, Cond.instanceMethod yX4_isThere]
def wsL_law0_r9 : List Cond := [Cond.selects RX4 yX4_isThere yX4_isThere, Cond.code yX4_isThere cX4_isThere 2 (some .boolean), Cond.methodLink RX4 30 yX4_ja, Cond.instanceMethod yX4_ja, Cond.selects RX4 yX4_ja yX4_ja, Cond.code yX4_ja cX4_ja 3 (some .int), Cond.methodLink RX4 82 yX4_all, Cond.instanceMethod yX4_all, Cond.selects RX4 yX4_all yX4_all, Cond.code yX4_all cX4_all 1 (some .int), Cond.methodLink RX4 34 yX4_many, Cond.instanceMethod yX4_many, Cond.selects RX4 yX4_many yX4_many, Cond.code yX4_many cX4_many 2 (some .int), Cond.methodLink RX4 86 yX4_pinned, Cond.instanceMethod yX4_pinned, Cond.selects RX4 yX4_pinned yX4_pinned, Cond.code yX4_pinned cX4_pinned 3 (some .int), Cond.methodLink RX4 110 yX4_fetched, Cond.instanceMethod yX4_fetched, Cond.selects RX4 yX4_fetched yX4_fetched, Cond.code yX4_fetched cX4_fetched 4 (some .int), Cond.methodLink RX4 68 Lib.Math.max.name, Cond.methodLink RX4 95 Lib.Math.min.name]
def wsL_law0_r10 : List Cond := [Cond.methodLink RX4 38 arraycopyName, Cond.native arraycopyName, Cond.static arraycopyName, Cond.initialized "java/lang/System", Cond.methodLink RX4 92 yX4_listOf, Cond.instanceMethod yX4_listOf, Cond.selects RX4 yX4_listOf yX4_listOf, Cond.code yX4_listOf cX4_listOf 2 (some .int), Cond.methodLink RX4 89 yX4_listPlace, Cond.instanceMethod yX4_listPlace, Cond.selects RX4 yX4_listPlace yX4_listPlace, Cond.code yX4_listPlace cX4_listPlace 4 (some .int), Cond.methodLink RX4 44 yX4_listed, Cond.instanceMethod yX4_listed, Cond.selects RX4 yX4_listed yX4_listed, Cond.code yX4_listed cX4_listed 2 (some .int), Cond.methodLink RX4 55 yX4_listedAt, Cond.instanceMethod yX4_listedAt, Cond.selects RX4 yX4_listedAt yX4_listedAt, Cond.code yX4_listedAt cX4_listedAt 3 (some .int), Cond.methodLink RX4 47 yX4_takeOff, Cond.instanceMethod yX4_takeOff, Cond.selects RX4 yX4_takeOff yX4_takeOff, Cond.code yX4_takeOff cX4_takeOff 3 none]
def wsL_law0_r11 : List Cond := [Cond.methodLink RX4 98 yX4_sweep, Cond.instanceMethod yX4_sweep, Cond.selects RX4 yX4_sweep yX4_sweep, Cond.code yX4_sweep cX4_sweep 4 (some .int), Cond.methodLink RX4 65 yX4_canGive, Cond.instanceMethod yX4_canGive, Cond.selects RX4 yX4_canGive yX4_canGive, Cond.code yX4_canGive cX4_canGive 3 (some .boolean), Cond.methodLink RX4 58 yX4_kindAt, Cond.instanceMethod yX4_kindAt, Cond.selects RX4 yX4_kindAt yX4_kindAt, Cond.code yX4_kindAt cX4_kindAt 3 (some .int), Cond.methodLink RX4 73 yX4_takeOut, Cond.instanceMethod yX4_takeOut, Cond.selects RX4 yX4_takeOut yX4_takeOut, Cond.code yX4_takeOut cX4_takeOut 3 none, Cond.methodLink RX4 76 yX4_putLast, Cond.instanceMethod yX4_putLast, Cond.selects RX4 yX4_putLast yX4_putLast, Cond.code yX4_putLast cX4_putLast 3 none, Cond.methodLink RX4 79 yX4_remember, Cond.instanceMethod yX4_remember, Cond.selects RX4 yX4_remember yX4_remember, Cond.code yX4_remember cX4_remember 3 none]
def wsL_law0_r12 : List Cond := [Cond.methodLink RX4 51 yX4_forget, Cond.instanceMethod yX4_forget, Cond.selects RX4 yX4_forget yX4_forget, Cond.code yX4_forget cX4_forget 2 none, Cond.methodLink RL 70 yX4_thrown, Cond.instanceMethod yX4_thrown, Cond.selects RX4 yX4_thrown yX4_thrown, Cond.code yX4_thrown cX4_thrown 1 (some .int), Cond.methodLink RL 74 yL_fetchAll, Cond.static yL_fetchAll, Cond.codeWith yL_fetchAll cL_fetchAll 6 (some .int) [(0, 12, 15, 13), (0, 12, 19, 21)], Cond.classLink RL 21 "java/lang/IllegalArgumentException", Cond.methodLink RL 17 yX3_fetchAll, Cond.instanceMethod yX3_fetchAll, Cond.selects RX3 yX3_fetchAll yX3_fetchAll, Cond.code yX3_fetchAll cX3_fetchAll 4 (some .int), Cond.methodLink RX3 34 yX3_requireSeries, Cond.static yX3_requireSeries, Cond.code yX3_requireSeries cX3_requireSeries 3 none, Cond.classLink RX3 67 "java/lang/IllegalArgumentException", Cond.initialized "java/lang/IllegalArgumentException", Cond.methodLink RX3 38 yX1_bringSeries, Cond.instanceMethod yX1_bringSeries, Cond.selects RX1 yX1_bringSeries yX1_bringSeries]
def wsL_law0_r13 : List Cond := [Cond.code yX1_bringSeries cX1_bringSeries 6 (some .int), Cond.methodLink RX1 111 yX1_bring, Cond.methodLink RL 77 yX4_fetchAll, Cond.instanceMethod yX4_fetchAll, Cond.selects RX4 yX4_fetchAll yX4_fetchAll, Cond.code yX4_fetchAll cX4_fetchAll 4 (some .int), Cond.methodLink RX4 113 yX4_wrong, Cond.instanceMethod yX4_wrong, Cond.selects RX4 yX4_wrong yX4_wrong, Cond.code yX4_wrong cX4_wrong 4 (some .int), Cond.methodLink RX4 117 yX4_hits, Cond.instanceMethod yX4_hits, Cond.selects RX4 yX4_hits yX4_hits, Cond.code yX4_hits cX4_hits 6 (some .int), Cond.methodLink RL 78 yL_pin, Cond.static yL_pin, Cond.codeWith yL_pin cL_pin 4 (some .int) [(0, 9, 12, 13), (0, 9, 15, 15)], Cond.methodLink RL 23 yX3_pin, Cond.instanceMethod yX3_pin, Cond.selects RX3 yX3_pin yX3_pin, Cond.code yX3_pin cX3_pin 2 (some .int), Cond.methodLink RX3 42 yX3_requireJar, Cond.instanceMethod yX3_requireJar, Cond.selects RX3 yX3_requireJar yX3_requireJar]
def wsL_law0_r14 : List Cond := [Cond.code yX3_requireJar cX3_requireJar 2 none, Cond.methodLink RX3 165 yX1_hasJar, Cond.methodLink RX3 49 yX2_of, Cond.methodLink RX3 56 yX1_changePins, Cond.instanceMethod yX1_changePins, Cond.selects RX1 yX1_changePins yX1_changePins, Cond.code yX1_changePins cX1_changePins 3 (some .int), Cond.methodLink RL 80 yX4_pin, Cond.instanceMethod yX4_pin, Cond.selects RX4 yX4_pin yX4_pin, Cond.code yX4_pin cX4_pin 2 (some .int), Cond.methodLink RL 81 yL_unpin, Cond.static yL_unpin, Cond.codeWith yL_unpin cL_unpin 4 (some .int) [(0, 9, 12, 13), (0, 9, 15, 15)], Cond.methodLink RL 26 yX3_unpin, Cond.instanceMethod yX3_unpin, Cond.selects RX3 yX3_unpin yX3_unpin, Cond.code yX3_unpin cX3_unpin 2 (some .int), Cond.methodLink RL 83 yX4_unpin, Cond.instanceMethod yX4_unpin, Cond.selects RX4 yX4_unpin yX4_unpin, Cond.code yX4_unpin cX4_unpin 2 (some .int), Cond.methodLink RL 84 yL_eat, Cond.static yL_eat]
def wsL_law0_r15 : List Cond := [Cond.codeWith yL_eat cL_eat 4 (some .int) [(0, 9, 12, 13), (0, 9, 15, 15)], Cond.methodLink RL 29 yX3_eat, Cond.instanceMethod yX3_eat, Cond.selects RX3 yX3_eat yX3_eat, Cond.code yX3_eat cX3_eat 2 (some .int), Cond.methodLink RX3 64 yX1_remove, Cond.instanceMethod yX1_remove, Cond.selects RX1 yX1_remove yX1_remove, Cond.code yX1_remove cX1_remove 2 (some .int), Cond.methodLink RL 86 yX4_eat, Cond.instanceMethod yX4_eat, Cond.selects RX4 yX4_eat yX4_eat, Cond.code yX4_eat cX4_eat 2 (some .int), Cond.methodLink RX4 120 yX4_placeOf, Cond.instanceMethod yX4_placeOf, Cond.selects RX4 yX4_placeOf yX4_placeOf, Cond.code yX4_placeOf cX4_placeOf 3 (some .int), Cond.methodLink RL 87 yL_setPlaces, Cond.static yL_setPlaces, Cond.codeWith yL_setPlaces cL_setPlaces 4 (some .int) [(0, 9, 12, 21), (0, 9, 15, 15)], Cond.methodLink RL 32 yX3_setPlaces, Cond.instanceMethod yX3_setPlaces, Cond.selects RX3 yX3_setPlaces yX3_setPlaces, Cond.code yX3_setPlaces cX3_setPlaces 3 (some .int)]
def wsL_law0_r16 : List Cond := [Cond.methodLink RX3 72 yX1_pinnedJars, Cond.methodLink RX3 82 yX1_resize, Cond.instanceMethod yX1_resize, Cond.selects RX1 yX1_resize yX1_resize, Cond.code yX1_resize cX1_resize 3 none, Cond.methodLink RL 89 yX4_setPlaces, Cond.instanceMethod yX4_setPlaces, Cond.selects RX4 yX4_setPlaces yX4_setPlaces, Cond.code yX4_setPlaces cX4_setPlaces 3 (some .int), Cond.methodLink RX4 123 yX4_place, Cond.instanceMethod yX4_place, Cond.selects RX4 yX4_place yX4_place, Cond.code yX4_place cX4_place 2 none, Cond.methodLink RL 90 yL_setGoal, Cond.static yL_setGoal, Cond.codeWith yL_setGoal cL_setGoal 4 (some .int) [(0, 9, 12, 21)], Cond.methodLink RL 35 yX3_setGoal, Cond.instanceMethod yX3_setGoal, Cond.selects RX3 yX3_setGoal yX3_setGoal, Cond.code yX3_setGoal cX3_setGoal 3 (some .int), Cond.methodLink RL 92 yX4_setGoal, Cond.instanceMethod yX4_setGoal, Cond.selects RX4 yX4_setGoal yX4_setGoal, Cond.code yX4_setGoal cX4_setGoal 3 (some .int)]
def wsL_law0_r17 : List Cond := [Cond.methodLink RL 93 yL_jar, Cond.static yL_jar, Cond.codeWith yL_jar cL_jar 5 (some .int) [(0, 10, 13, 13)], Cond.methodLink RL 38 yX3_jar, Cond.instanceMethod yX3_jar, Cond.selects RX3 yX3_jar yX3_jar, Cond.code yX3_jar cX3_jar 3 (some .int), Cond.methodLink RX3 95 yX1_detail, Cond.instanceMethod yX1_detail, Cond.selects RX1 yX1_detail yX1_detail, Cond.code yX1_detail cX1_detail 5 (some .int), Cond.methodLink RL 96 yX4_jar, Cond.instanceMethod yX4_jar, Cond.selects RX4 yX4_jar yX4_jar, Cond.code yX4_jar cX4_jar 3 (some .int), Cond.methodLink RL 97 yL_shelf, Cond.static yL_shelf, Cond.codeWith yL_shelf cL_shelf 5 (some .int) [(0, 10, 13, 13)], Cond.methodLink RL 42 yX3_shelf, Cond.instanceMethod yX3_shelf, Cond.selects RX3 yX3_shelf yX3_shelf, Cond.code yX3_shelf cX3_shelf 3 (some .int), Cond.methodLink RX3 98 yX3_requireShelf, Cond.static yX3_requireShelf]
def wsL_law0_r18 : List Cond := [Cond.code yX3_requireShelf cX3_requireShelf 1 none, Cond.methodLink RX3 101 yX1_rowOf, Cond.methodLink RX3 105 yX3_requireAt, Cond.static yX3_requireAt, Cond.code yX3_requireAt cX3_requireAt 3 (some .int), Cond.methodLink RX3 160 yX0_at, Cond.methodLink RL 99 yX4_shelf, Cond.instanceMethod yX4_shelf, Cond.selects RX4 yX4_shelf yX4_shelf, Cond.code yX4_shelf cX4_shelf 3 (some .int), Cond.methodLink RL 100 yL_ghost, Cond.static yL_ghost, Cond.codeWith yL_ghost cL_ghost 5 (some .int) [(0, 10, 13, 13)], Cond.methodLink RL 45 yX3_ghost, Cond.instanceMethod yX3_ghost, Cond.selects RX3 yX3_ghost yX3_ghost, Cond.code yX3_ghost cX3_ghost 3 (some .int), Cond.methodLink RX3 109 yX1_listOf, Cond.methodLink RL 102 yX4_ghost, Cond.instanceMethod yX4_ghost, Cond.selects RX4 yX4_ghost yX4_ghost, Cond.code yX4_ghost cX4_ghost 3 (some .int), Cond.methodLink RL 103 yL_count, Cond.static yL_count]
def wsL_law0_r19 : List Cond := [Cond.codeWith yL_count cL_count 4 (some .int) [(0, 9, 12, 13)], Cond.methodLink RL 48 yX3_count, Cond.instanceMethod yX3_count, Cond.selects RX3 yX3_count yX3_count, Cond.code yX3_count cX3_count 2 (some .int), Cond.methodLink RX3 114 yX1_tally, Cond.instanceMethod yX1_tally, Cond.selects RX1 yX1_tally yX1_tally, Cond.code yX1_tally cX1_tally 2 (some .int), Cond.methodLink RL 105 yX4_count, Cond.instanceMethod yX4_count, Cond.selects RX4 yX4_count yX4_count, Cond.code yX4_count cX4_count 2 (some .int), Cond.methodLink RX4 126 yX4_counted, Cond.instanceMethod yX4_counted, Cond.selects RX4 yX4_counted yX4_counted, Cond.code yX4_counted cX4_counted 2 (some .int), Cond.methodLink RL 106 yX3_next, Cond.instanceMethod yX3_next, Cond.selects RX3 yX3_next yX3_next, Cond.code yX3_next cX3_next 1 (some .int), Cond.methodLink RX3 117 yX1_become, Cond.instanceMethod yX1_become, Cond.selects RX1 yX1_become yX1_become]
def wsL_law0_r20 : List Cond := [Cond.code yX1_become cX1_become 2 none, Cond.methodLink RX1 44 yX0_become, Cond.instanceMethod yX0_become, Cond.selects RX0 yX0_become yX0_become, Cond.code yX0_become cX0_become 3 none, Cond.methodLink RX1 48 yX2_become, Cond.instanceMethod yX2_become, Cond.selects RX2 yX2_become yX2_become, Cond.code yX2_become cX2_become 3 none, Cond.methodLink RX3 121 yX1_sweep, Cond.methodLink RL 109 yX4_next, Cond.instanceMethod yX4_next, Cond.selects RX4 yX4_next yX4_next, Cond.code yX4_next cX4_next 3 (some .int), Cond.methodLink RX4 134 yX4_kept, Cond.instanceMethod yX4_kept, Cond.selects RX4 yX4_kept yX4_kept, Cond.code yX4_kept cX4_kept 1 (some (.array (.array .int))), Cond.classLink RX4 129 "[I", Cond.methodLink RX4 130 ⟨"[I", "clone", "()Ljava/lang/Object;"⟩, Cond.sameMethod "[I" "java/lang/Object" "clone" "()Ljava/lang/Object;", Cond.native ⟨"java/lang/Object", "clone", "()Ljava/lang/Object;"⟩, Cond.instanceMethod ⟨"java/lang/Object", "clone", "()Ljava/lang/Object;"⟩, Cond.selects "[I" ⟨"[I", "clone", "()Ljava/lang/Object;"⟩ ⟨"java/lang/Object", "clone", "()Ljava/lang/Object;"⟩]
def wsL_law0_r21 : List Cond := [Cond.methodLink RX4 138 yX4_bringBack, Cond.instanceMethod yX4_bringBack, Cond.selects RX4 yX4_bringBack yX4_bringBack, Cond.code yX4_bringBack cX4_bringBack 2 none, Cond.methodLink RL 110 yL_would, Cond.static yL_would, Cond.codeWith yL_would cL_would 4 (some .int) [(0, 9, 12, 13)], Cond.methodLink RL 51 yX3_would, Cond.instanceMethod yX3_would, Cond.selects RX3 yX3_would yX3_would, Cond.code yX3_would cX3_would 2 (some .int), Cond.methodLink RX3 124 yX1_forecast, Cond.methodLink RL 112 yX4_would, Cond.instanceMethod yX4_would, Cond.selects RX4 yX4_would yX4_would, Cond.code yX4_would cX4_would 2 (some .int), Cond.methodLink RX4 142 yX4_told, Cond.instanceMethod yX4_told, Cond.selects RX4 yX4_told yX4_told, Cond.code yX4_told cX4_told 2 (some .int), Cond.methodLink RL 113 yL_trial, Cond.static yL_trial, Cond.codeWith yL_trial cL_trial 6 (some .int) [(0, 12, 15, 13), (0, 12, 19, 21)], Cond.methodLink RL 54 yX3_trial]
def wsL_law0_r22 : List Cond := [Cond.instanceMethod yX3_trial, Cond.selects RX3 yX3_trial yX3_trial, Cond.code yX3_trial cX3_trial 4 (some .int), Cond.methodLink RL 115 yX4_trial, Cond.instanceMethod yX4_trial, Cond.selects RX4 yX4_trial yX4_trial, Cond.code yX4_trial cX4_trial 6 (some .int), Cond.methodLink RL 116 yL_advise, Cond.static yL_advise, Cond.codeWith yL_advise cL_advise 6 (some .int) [(0, 12, 15, 13), (0, 12, 19, 21)], Cond.methodLink RL 57 yX3_advise, Cond.instanceMethod yX3_advise, Cond.selects RX3 yX3_advise yX3_advise, Cond.code yX3_advise cX3_advise 8 (some .int), Cond.methodLink RX3 127 Lib.Math.max.name, Cond.methodLink RL 118 yX4_advise, Cond.instanceMethod yX4_advise, Cond.selects RX4 yX4_advise yX4_advise, Cond.code yX4_advise cX4_advise 9 (some .int), Cond.methodLink RL 119 yX3_mean, Cond.instanceMethod yX3_mean, Cond.selects RX3 yX3_mean yX3_mean, Cond.code yX3_mean cX3_mean 2 (some .double), Cond.methodLink RX3 132 yX1_jars]
def wsL_law0_r23 : List Cond := [Cond.methodLink RX3 135 yX1_fetchesOfAll, Cond.instanceMethod yX1_fetchesOfAll, Cond.selects RX1 yX1_fetchesOfAll yX1_fetchesOfAll, Cond.code yX1_fetchesOfAll cX1_fetchesOfAll 3 (some .int), Cond.methodLink RL 123 yX4_mean, Cond.instanceMethod yX4_mean, Cond.selects RX4 yX4_mean yX4_mean, Cond.code yX4_mean cX4_mean 3 (some .double), Cond.methodLink RL 124 yX3_digest, Cond.instanceMethod yX3_digest, Cond.selects RX3 yX3_digest yX3_digest, Cond.code yX3_digest cX3_digest 4 (some .long), Cond.constantLong RX3 138 (1541), Cond.constantLong RX3 140 (31), Cond.methodLink RX3 142 yX1_digestJars, Cond.instanceMethod yX1_digestJars, Cond.selects RX1 yX1_digestJars yX1_digestJars, Cond.code yX1_digestJars cX1_digestJars 8 (some .long), Cond.constantLong RX1 151 (31), Cond.methodLink RX3 146 yX0_digestKinds, Cond.instanceMethod yX0_digestKinds, Cond.selects RX0 yX0_digestKinds yX0_digestKinds, Cond.code yX0_digestKinds cX0_digestKinds 6 (some .long), Cond.constantLong RX0 27 (31)]
def wsL_law0_r24 : List Cond := [Cond.methodLink RX0 29 yX0_at, Cond.methodLink RL 128 yX4_digest, Cond.instanceMethod yX4_digest, Cond.selects RX4 yX4_digest yX4_digest, Cond.code yX4_digest cX4_digest 7 (some .long), Cond.constantLong RX4 145 (1541), Cond.constantLong RX4 147 (31)]
def wsL_law0 : List Cond := (wsL_law0_r1 ++ (wsL_law0_r2 ++ (wsL_law0_r3 ++ (wsL_law0_r4 ++ (wsL_law0_r5 ++ (wsL_law0_r6 ++ (wsL_law0_r7 ++ (wsL_law0_r8 ++ (wsL_law0_r9 ++ (wsL_law0_r10 ++ (wsL_law0_r11 ++ (wsL_law0_r12 ++ (wsL_law0_r13 ++ (wsL_law0_r14 ++ (wsL_law0_r15 ++ (wsL_law0_r16 ++ (wsL_law0_r17 ++ (wsL_law0_r18 ++ (wsL_law0_r19 ++ (wsL_law0_r20 ++ (wsL_law0_r21 ++ (wsL_law0_r22 ++ (wsL_law0_r23 ++ wsL_law0_r24))))))))))))))))))))))) ++ wsX30 ++ wsX40 ++ wsX10 ++ wsX00 ++ wsX20 ++ ([] : List Cond)
def wsL_law : List Cond := wsL_law0 ++ (vx_atS RX3 31 "java/lang/IllegalStateException" ["java/lang/RuntimeException", "java/lang/Exception"]).filter goodWord ++ (vx_atS RX3 94 "java/lang/IndexOutOfBoundsException" ["java/lang/RuntimeException", "java/lang/Exception"]).filter goodWord ++ (vx_atS RX3 71 "java/lang/IllegalArgumentException" ["java/lang/RuntimeException", "java/lang/Exception"]).filter goodWord
theorem inlX0 : ∀ w ∈ wsX00, w ∈ wsL_law := fun _ h => List.mem_append_left _ (List.mem_append_left _ (List.mem_append_left _ (List.mem_append_left _ (List.mem_append_left _ (List.mem_append_right _ h)))))
theorem inlX1 : ∀ w ∈ wsX10, w ∈ wsL_law := fun _ h => List.mem_append_left _ (List.mem_append_left _ (List.mem_append_left _ (List.mem_append_left _ (List.mem_append_left _ (List.mem_append_left _ (List.mem_append_right _ h))))))
theorem inlX2 : ∀ w ∈ wsX20, w ∈ wsL_law := fun _ h => List.mem_append_left _ (List.mem_append_left _ (List.mem_append_left _ (List.mem_append_left _ (List.mem_append_right _ h))))
theorem inlX3 : ∀ w ∈ wsX30, w ∈ wsL_law := fun _ h => List.mem_append_left _ (List.mem_append_left _ (List.mem_append_left _ (List.mem_append_left _ (List.mem_append_left _ (List.mem_append_left _ (List.mem_append_left _ (List.mem_append_left _ (List.mem_append_right _ h))))))))
theorem inlX4 : ∀ w ∈ wsX40, w ∈ wsL_law := fun _ h => List.mem_append_left _ (List.mem_append_left _ (List.mem_append_left _ (List.mem_append_left _ (List.mem_append_left _ (List.mem_append_left _ (List.mem_append_left _ (List.mem_append_right _ h)))))))
abbrev vwCl : List vw_C := [(RX0, TX0, 2), (RX1, TX1, 13), (RX2, TX2, 1), (RX3, TX3, 2), (RX4, TX4, 5)]
end
section
theorem dX0_init_0 : decode cX0_init 0 = .ok (.aload_n 0, 1) := by decide +kernel
theorem dX0_init_1 : decode cX0_init 1 = .ok (.invokespecial 3, 3) := by decide +kernel
theorem dX0_init_4 : decode cX0_init 4 = .ok (.aload_n 0, 1) := by decide +kernel
theorem dX0_init_5 : decode cX0_init 5 = .ok (.bipush 40, 2) := by decide +kernel
theorem dX0_init_7 : decode cX0_init 7 = .ok (.newarray .int, 2) := by decide +kernel
theorem dX0_init_9 : decode cX0_init 9 = .ok (.putfield 9, 3) := by decide +kernel
theorem dX0_init_12 : decode cX0_init 12 = .ok (.aload_n 0, 1) := by decide +kernel
theorem dX0_init_13 : decode cX0_init 13 = .ok (.iconst 0, 1) := by decide +kernel
theorem dX0_init_14 : decode cX0_init 14 = .ok (.putfield 15, 3) := by decide +kernel
theorem dX0_init_17 : decode cX0_init 17 = .ok (.return_, 1) := by decide +kernel
theorem dX0_become_0 : decode cX0_become 0 = .ok (.iconst 0, 1) := by decide +kernel
theorem dX0_become_1 : decode cX0_become 1 = .ok (.istore_n 2, 1) := by decide +kernel
theorem dX0_become_2 : decode cX0_become 2 = .ok (.iload_n 2, 1) := by decide +kernel
theorem dX0_become_3 : decode cX0_become 3 = .ok (.aload_n 0, 1) := by decide +kernel
theorem dX0_become_4 : decode cX0_become 4 = .ok (.getfield 9, 3) := by decide +kernel
theorem dX0_become_7 : decode cX0_become 7 = .ok (.arraylength, 1) := by decide +kernel
theorem dX0_become_8 : decode cX0_become 8 = .ok (.if_icmp .ge 30, 3) := by decide +kernel
theorem dX0_become_11 : decode cX0_become 11 = .ok (.iload_n 2, 1) := by decide +kernel
theorem dX0_become_12 : decode cX0_become 12 = .ok (.aload_n 1, 1) := by decide +kernel
theorem dX0_become_13 : decode cX0_become 13 = .ok (.getfield 9, 3) := by decide +kernel
theorem dX0_become_16 : decode cX0_become 16 = .ok (.arraylength, 1) := by decide +kernel
theorem dX0_become_17 : decode cX0_become 17 = .ok (.if_icmp .ge 21, 3) := by decide +kernel
theorem dX0_become_20 : decode cX0_become 20 = .ok (.aload_n 0, 1) := by decide +kernel
theorem dX0_become_21 : decode cX0_become 21 = .ok (.getfield 9, 3) := by decide +kernel
theorem dX0_become_24 : decode cX0_become 24 = .ok (.iload_n 2, 1) := by decide +kernel
theorem dX0_become_25 : decode cX0_become 25 = .ok (.aload_n 1, 1) := by decide +kernel
theorem dX0_become_26 : decode cX0_become 26 = .ok (.getfield 9, 3) := by decide +kernel
theorem dX0_become_29 : decode cX0_become 29 = .ok (.iload_n 2, 1) := by decide +kernel
theorem dX0_become_30 : decode cX0_become 30 = .ok (.iaload, 1) := by decide +kernel
theorem dX0_become_31 : decode cX0_become 31 = .ok (.iastore, 1) := by decide +kernel
theorem dX0_become_32 : decode cX0_become 32 = .ok (.iinc 2 1, 3) := by decide +kernel
theorem dX0_become_35 : decode cX0_become 35 = .ok (.goto (-33), 3) := by decide +kernel
theorem dX0_become_38 : decode cX0_become 38 = .ok (.aload_n 0, 1) := by decide +kernel
theorem dX0_become_39 : decode cX0_become 39 = .ok (.aload_n 1, 1) := by decide +kernel
theorem dX0_become_40 : decode cX0_become 40 = .ok (.getfield 15, 3) := by decide +kernel
theorem dX0_become_43 : decode cX0_become 43 = .ok (.putfield 15, 3) := by decide +kernel
theorem dX0_become_46 : decode cX0_become 46 = .ok (.return_, 1) := by decide +kernel
theorem dX0_at_0 : decode cX0_at 0 = .ok (.iload_n 1, 1) := by decide +kernel
theorem dX0_at_1 : decode cX0_at 1 = .ok (.ifCond .lt 29, 3) := by decide +kernel
theorem dX0_at_4 : decode cX0_at 4 = .ok (.iload_n 1, 1) := by decide +kernel
theorem dX0_at_5 : decode cX0_at 5 = .ok (.aload_n 0, 1) := by decide +kernel
theorem dX0_at_6 : decode cX0_at 6 = .ok (.getfield 15, 3) := by decide +kernel
theorem dX0_at_9 : decode cX0_at 9 = .ok (.if_icmp .ge 21, 3) := by decide +kernel
theorem dX0_at_12 : decode cX0_at 12 = .ok (.iload_n 1, 1) := by decide +kernel
theorem dX0_at_13 : decode cX0_at 13 = .ok (.aload_n 0, 1) := by decide +kernel
theorem dX0_at_14 : decode cX0_at 14 = .ok (.getfield 9, 3) := by decide +kernel
theorem dX0_at_17 : decode cX0_at 17 = .ok (.arraylength, 1) := by decide +kernel
theorem dX0_at_18 : decode cX0_at 18 = .ok (.if_icmp .ge 12, 3) := by decide +kernel
theorem dX0_at_21 : decode cX0_at 21 = .ok (.aload_n 0, 1) := by decide +kernel
theorem dX0_at_22 : decode cX0_at 22 = .ok (.getfield 9, 3) := by decide +kernel
theorem dX0_at_25 : decode cX0_at 25 = .ok (.iload_n 1, 1) := by decide +kernel
theorem dX0_at_26 : decode cX0_at 26 = .ok (.iaload, 1) := by decide +kernel
theorem dX0_at_27 : decode cX0_at 27 = .ok (.goto 4, 3) := by decide +kernel
theorem dX0_at_30 : decode cX0_at 30 = .ok (.iconst (-1), 1) := by decide +kernel
theorem dX0_at_31 : decode cX0_at 31 = .ok (.ireturn, 1) := by decide +kernel
theorem dX0_placeOf_0 : decode cX0_placeOf 0 = .ok (.iconst 0, 1) := by decide +kernel
theorem dX0_placeOf_1 : decode cX0_placeOf 1 = .ok (.istore_n 2, 1) := by decide +kernel
theorem dX0_placeOf_2 : decode cX0_placeOf 2 = .ok (.iload_n 2, 1) := by decide +kernel
theorem dX0_placeOf_3 : decode cX0_placeOf 3 = .ok (.aload_n 0, 1) := by decide +kernel
theorem dX0_placeOf_4 : decode cX0_placeOf 4 = .ok (.getfield 15, 3) := by decide +kernel
theorem dX0_placeOf_7 : decode cX0_placeOf 7 = .ok (.if_icmp .ge 30, 3) := by decide +kernel
theorem dX0_placeOf_10 : decode cX0_placeOf 10 = .ok (.iload_n 2, 1) := by decide +kernel
theorem dX0_placeOf_11 : decode cX0_placeOf 11 = .ok (.aload_n 0, 1) := by decide +kernel
theorem dX0_placeOf_12 : decode cX0_placeOf 12 = .ok (.getfield 9, 3) := by decide +kernel
theorem dX0_placeOf_15 : decode cX0_placeOf 15 = .ok (.arraylength, 1) := by decide +kernel
theorem dX0_placeOf_16 : decode cX0_placeOf 16 = .ok (.if_icmp .ge 21, 3) := by decide +kernel
theorem dX0_placeOf_19 : decode cX0_placeOf 19 = .ok (.aload_n 0, 1) := by decide +kernel
theorem dX0_placeOf_20 : decode cX0_placeOf 20 = .ok (.getfield 9, 3) := by decide +kernel
theorem dX0_placeOf_23 : decode cX0_placeOf 23 = .ok (.iload_n 2, 1) := by decide +kernel
theorem dX0_placeOf_24 : decode cX0_placeOf 24 = .ok (.iaload, 1) := by decide +kernel
theorem dX0_placeOf_25 : decode cX0_placeOf 25 = .ok (.iload_n 1, 1) := by decide +kernel
theorem dX0_placeOf_26 : decode cX0_placeOf 26 = .ok (.if_icmp .ne 5, 3) := by decide +kernel
theorem dX0_placeOf_29 : decode cX0_placeOf 29 = .ok (.iload_n 2, 1) := by decide +kernel
theorem dX0_placeOf_30 : decode cX0_placeOf 30 = .ok (.ireturn, 1) := by decide +kernel
theorem dX0_placeOf_31 : decode cX0_placeOf 31 = .ok (.iinc 2 1, 3) := by decide +kernel
theorem dX0_placeOf_34 : decode cX0_placeOf 34 = .ok (.goto (-32), 3) := by decide +kernel
theorem dX0_placeOf_37 : decode cX0_placeOf 37 = .ok (.iconst (-1), 1) := by decide +kernel
theorem dX0_placeOf_38 : decode cX0_placeOf 38 = .ok (.ireturn, 1) := by decide +kernel
theorem dX0_has_0 : decode cX0_has 0 = .ok (.aload_n 0, 1) := by decide +kernel
theorem dX0_has_1 : decode cX0_has 1 = .ok (.iload_n 1, 1) := by decide +kernel
theorem dX0_has_2 : decode cX0_has 2 = .ok (.invokevirtual 19, 3) := by decide +kernel
theorem dX0_has_5 : decode cX0_has 5 = .ok (.iconst (-1), 1) := by decide +kernel
theorem dX0_has_6 : decode cX0_has 6 = .ok (.if_icmp .eq 7, 3) := by decide +kernel
theorem dX0_has_9 : decode cX0_has 9 = .ok (.iconst 1, 1) := by decide +kernel
theorem dX0_has_10 : decode cX0_has 10 = .ok (.goto 4, 3) := by decide +kernel
theorem dX0_has_13 : decode cX0_has 13 = .ok (.iconst 0, 1) := by decide +kernel
theorem dX0_has_14 : decode cX0_has 14 = .ok (.ireturn, 1) := by decide +kernel
theorem dX0_append_0 : decode cX0_append 0 = .ok (.aload_n 0, 1) := by decide +kernel
theorem dX0_append_1 : decode cX0_append 1 = .ok (.getfield 15, 3) := by decide +kernel
theorem dX0_append_4 : decode cX0_append 4 = .ok (.ifCond .lt 35, 3) := by decide +kernel
theorem dX0_append_7 : decode cX0_append 7 = .ok (.aload_n 0, 1) := by decide +kernel
theorem dX0_append_8 : decode cX0_append 8 = .ok (.getfield 15, 3) := by decide +kernel
theorem dX0_append_11 : decode cX0_append 11 = .ok (.aload_n 0, 1) := by decide +kernel
theorem dX0_append_12 : decode cX0_append 12 = .ok (.getfield 9, 3) := by decide +kernel
theorem dX0_append_15 : decode cX0_append 15 = .ok (.arraylength, 1) := by decide +kernel
theorem dX0_append_16 : decode cX0_append 16 = .ok (.if_icmp .ge 23, 3) := by decide +kernel
theorem dX0_append_19 : decode cX0_append 19 = .ok (.aload_n 0, 1) := by decide +kernel
theorem dX0_append_20 : decode cX0_append 20 = .ok (.getfield 9, 3) := by decide +kernel
theorem dX0_append_23 : decode cX0_append 23 = .ok (.aload_n 0, 1) := by decide +kernel
theorem dX0_append_24 : decode cX0_append 24 = .ok (.getfield 15, 3) := by decide +kernel
theorem dX0_append_27 : decode cX0_append 27 = .ok (.iload_n 1, 1) := by decide +kernel
theorem dX0_append_28 : decode cX0_append 28 = .ok (.iastore, 1) := by decide +kernel
theorem dX0_append_29 : decode cX0_append 29 = .ok (.aload_n 0, 1) := by decide +kernel
theorem dX0_append_30 : decode cX0_append 30 = .ok (.dup, 1) := by decide +kernel
theorem dX0_append_31 : decode cX0_append 31 = .ok (.getfield 15, 3) := by decide +kernel
theorem dX0_append_34 : decode cX0_append 34 = .ok (.iconst 1, 1) := by decide +kernel
theorem dX0_append_35 : decode cX0_append 35 = .ok (.iadd, 1) := by decide +kernel
theorem dX0_append_36 : decode cX0_append 36 = .ok (.putfield 15, 3) := by decide +kernel
theorem dX0_append_39 : decode cX0_append 39 = .ok (.return_, 1) := by decide +kernel
theorem dX0_takeOut_0 : decode cX0_takeOut 0 = .ok (.iload_n 1, 1) := by decide +kernel
theorem dX0_takeOut_1 : decode cX0_takeOut 1 = .ok (.ifCond .lt 11, 3) := by decide +kernel
theorem dX0_takeOut_4 : decode cX0_takeOut 4 = .ok (.iload_n 1, 1) := by decide +kernel
theorem dX0_takeOut_5 : decode cX0_takeOut 5 = .ok (.aload_n 0, 1) := by decide +kernel
theorem dX0_takeOut_6 : decode cX0_takeOut 6 = .ok (.getfield 15, 3) := by decide +kernel
theorem dX0_takeOut_9 : decode cX0_takeOut 9 = .ok (.if_icmp .lt 4, 3) := by decide +kernel
theorem dX0_takeOut_12 : decode cX0_takeOut 12 = .ok (.return_, 1) := by decide +kernel
theorem dX0_takeOut_13 : decode cX0_takeOut 13 = .ok (.iload_n 1, 1) := by decide +kernel
theorem dX0_takeOut_14 : decode cX0_takeOut 14 = .ok (.iconst 1, 1) := by decide +kernel
theorem dX0_takeOut_15 : decode cX0_takeOut 15 = .ok (.iadd, 1) := by decide +kernel
theorem dX0_takeOut_16 : decode cX0_takeOut 16 = .ok (.istore_n 2, 1) := by decide +kernel
theorem dX0_takeOut_17 : decode cX0_takeOut 17 = .ok (.iload_n 2, 1) := by decide +kernel
theorem dX0_takeOut_18 : decode cX0_takeOut 18 = .ok (.aload_n 0, 1) := by decide +kernel
theorem dX0_takeOut_19 : decode cX0_takeOut 19 = .ok (.getfield 15, 3) := by decide +kernel
theorem dX0_takeOut_22 : decode cX0_takeOut 22 = .ok (.if_icmp .ge 32, 3) := by decide +kernel
theorem dX0_takeOut_25 : decode cX0_takeOut 25 = .ok (.iload_n 2, 1) := by decide +kernel
theorem dX0_takeOut_26 : decode cX0_takeOut 26 = .ok (.aload_n 0, 1) := by decide +kernel
theorem dX0_takeOut_27 : decode cX0_takeOut 27 = .ok (.getfield 9, 3) := by decide +kernel
theorem dX0_takeOut_30 : decode cX0_takeOut 30 = .ok (.arraylength, 1) := by decide +kernel
theorem dX0_takeOut_31 : decode cX0_takeOut 31 = .ok (.if_icmp .ge 23, 3) := by decide +kernel
theorem dX0_takeOut_34 : decode cX0_takeOut 34 = .ok (.aload_n 0, 1) := by decide +kernel
theorem dX0_takeOut_35 : decode cX0_takeOut 35 = .ok (.getfield 9, 3) := by decide +kernel
theorem dX0_takeOut_38 : decode cX0_takeOut 38 = .ok (.iload_n 2, 1) := by decide +kernel
theorem dX0_takeOut_39 : decode cX0_takeOut 39 = .ok (.iconst 1, 1) := by decide +kernel
theorem dX0_takeOut_40 : decode cX0_takeOut 40 = .ok (.isub, 1) := by decide +kernel
theorem dX0_takeOut_41 : decode cX0_takeOut 41 = .ok (.aload_n 0, 1) := by decide +kernel
theorem dX0_takeOut_42 : decode cX0_takeOut 42 = .ok (.getfield 9, 3) := by decide +kernel
theorem dX0_takeOut_45 : decode cX0_takeOut 45 = .ok (.iload_n 2, 1) := by decide +kernel
theorem dX0_takeOut_46 : decode cX0_takeOut 46 = .ok (.iaload, 1) := by decide +kernel
theorem dX0_takeOut_47 : decode cX0_takeOut 47 = .ok (.iastore, 1) := by decide +kernel
theorem dX0_takeOut_48 : decode cX0_takeOut 48 = .ok (.iinc 2 1, 3) := by decide +kernel
theorem dX0_takeOut_51 : decode cX0_takeOut 51 = .ok (.goto (-34), 3) := by decide +kernel
theorem dX0_takeOut_54 : decode cX0_takeOut 54 = .ok (.aload_n 0, 1) := by decide +kernel
theorem dX0_takeOut_55 : decode cX0_takeOut 55 = .ok (.dup, 1) := by decide +kernel
theorem dX0_takeOut_56 : decode cX0_takeOut 56 = .ok (.getfield 15, 3) := by decide +kernel
theorem dX0_takeOut_59 : decode cX0_takeOut 59 = .ok (.iconst 1, 1) := by decide +kernel
theorem dX0_takeOut_60 : decode cX0_takeOut 60 = .ok (.isub, 1) := by decide +kernel
theorem dX0_takeOut_61 : decode cX0_takeOut 61 = .ok (.putfield 15, 3) := by decide +kernel
theorem dX0_takeOut_64 : decode cX0_takeOut 64 = .ok (.return_, 1) := by decide +kernel
theorem dX0_forgetEldest_0 : decode cX0_forgetEldest 0 = .ok (.aload_n 0, 1) := by decide +kernel
theorem dX0_forgetEldest_1 : decode cX0_forgetEldest 1 = .ok (.getfield 15, 3) := by decide +kernel
theorem dX0_forgetEldest_4 : decode cX0_forgetEldest 4 = .ok (.iload_n 1, 1) := by decide +kernel
theorem dX0_forgetEldest_5 : decode cX0_forgetEldest 5 = .ok (.isub, 1) := by decide +kernel
theorem dX0_forgetEldest_6 : decode cX0_forgetEldest 6 = .ok (.istore_n 2, 1) := by decide +kernel
theorem dX0_forgetEldest_7 : decode cX0_forgetEldest 7 = .ok (.iload_n 2, 1) := by decide +kernel
theorem dX0_forgetEldest_8 : decode cX0_forgetEldest 8 = .ok (.ifCond .le 14, 3) := by decide +kernel
theorem dX0_forgetEldest_11 : decode cX0_forgetEldest 11 = .ok (.aload_n 0, 1) := by decide +kernel
theorem dX0_forgetEldest_12 : decode cX0_forgetEldest 12 = .ok (.iconst 0, 1) := by decide +kernel
theorem dX0_forgetEldest_13 : decode cX0_forgetEldest 13 = .ok (.invokevirtual 23, 3) := by decide +kernel
theorem dX0_forgetEldest_16 : decode cX0_forgetEldest 16 = .ok (.iinc 2 (-1), 3) := by decide +kernel
theorem dX0_forgetEldest_19 : decode cX0_forgetEldest 19 = .ok (.goto (-12), 3) := by decide +kernel
theorem dX0_forgetEldest_22 : decode cX0_forgetEldest 22 = .ok (.return_, 1) := by decide +kernel
theorem dX0_digestKinds_0 : decode cX0_digestKinds 0 = .ok (.lload_n 1, 1) := by decide +kernel
theorem dX0_digestKinds_1 : decode cX0_digestKinds 1 = .ok (.lstore_n 3, 1) := by decide +kernel
theorem dX0_digestKinds_2 : decode cX0_digestKinds 2 = .ok (.iconst 0, 1) := by decide +kernel
theorem dX0_digestKinds_3 : decode cX0_digestKinds 3 = .ok (.istore 5, 2) := by decide +kernel
theorem dX0_digestKinds_5 : decode cX0_digestKinds 5 = .ok (.iload 5, 2) := by decide +kernel
theorem dX0_digestKinds_7 : decode cX0_digestKinds 7 = .ok (.aload_n 0, 1) := by decide +kernel
theorem dX0_digestKinds_8 : decode cX0_digestKinds 8 = .ok (.getfield 15, 3) := by decide +kernel
theorem dX0_digestKinds_11 : decode cX0_digestKinds 11 = .ok (.if_icmp .ge 23, 3) := by decide +kernel
theorem dX0_digestKinds_14 : decode cX0_digestKinds 14 = .ok (.lload_n 3, 1) := by decide +kernel
theorem dX0_digestKinds_15 : decode cX0_digestKinds 15 = .ok (.ldc2_w 27, 3) := by decide +kernel
theorem dX0_digestKinds_18 : decode cX0_digestKinds 18 = .ok (.lmul, 1) := by decide +kernel
theorem dX0_digestKinds_19 : decode cX0_digestKinds 19 = .ok (.aload_n 0, 1) := by decide +kernel
theorem dX0_digestKinds_20 : decode cX0_digestKinds 20 = .ok (.iload 5, 2) := by decide +kernel
theorem dX0_digestKinds_22 : decode cX0_digestKinds 22 = .ok (.invokevirtual 29, 3) := by decide +kernel
theorem dX0_digestKinds_25 : decode cX0_digestKinds 25 = .ok (.i2l, 1) := by decide +kernel
theorem dX0_digestKinds_26 : decode cX0_digestKinds 26 = .ok (.ladd, 1) := by decide +kernel
theorem dX0_digestKinds_27 : decode cX0_digestKinds 27 = .ok (.lstore_n 3, 1) := by decide +kernel
theorem dX0_digestKinds_28 : decode cX0_digestKinds 28 = .ok (.iinc 5 1, 3) := by decide +kernel
theorem dX0_digestKinds_31 : decode cX0_digestKinds 31 = .ok (.goto (-26), 3) := by decide +kernel
theorem dX0_digestKinds_34 : decode cX0_digestKinds 34 = .ok (.lload_n 3, 1) := by decide +kernel
theorem dX0_digestKinds_35 : decode cX0_digestKinds 35 = .ok (.lreturn, 1) := by decide +kernel
theorem dX1_init_0 : decode cX1_init 0 = .ok (.aload_n 0, 1) := by decide +kernel
theorem dX1_init_1 : decode cX1_init 1 = .ok (.invokespecial 3, 3) := by decide +kernel
theorem dX1_init_4 : decode cX1_init 4 = .ok (.aload_n 0, 1) := by decide +kernel
theorem dX1_init_5 : decode cX1_init 5 = .ok (.new 9, 3) := by decide +kernel
theorem dX1_init_8 : decode cX1_init 8 = .ok (.dup, 1) := by decide +kernel
theorem dX1_init_9 : decode cX1_init 9 = .ok (.invokespecial 11, 3) := by decide +kernel
theorem dX1_init_12 : decode cX1_init 12 = .ok (.putfield 12, 3) := by decide +kernel
theorem dX1_init_15 : decode cX1_init 15 = .ok (.aload_n 0, 1) := by decide +kernel
theorem dX1_init_16 : decode cX1_init 16 = .ok (.new 9, 3) := by decide +kernel
theorem dX1_init_19 : decode cX1_init 19 = .ok (.dup, 1) := by decide +kernel
theorem dX1_init_20 : decode cX1_init 20 = .ok (.invokespecial 11, 3) := by decide +kernel
theorem dX1_init_23 : decode cX1_init 23 = .ok (.putfield 18, 3) := by decide +kernel
theorem dX1_init_26 : decode cX1_init 26 = .ok (.aload_n 0, 1) := by decide +kernel
theorem dX1_init_27 : decode cX1_init 27 = .ok (.new 9, 3) := by decide +kernel
theorem dX1_init_30 : decode cX1_init 30 = .ok (.dup, 1) := by decide +kernel
theorem dX1_init_31 : decode cX1_init 31 = .ok (.invokespecial 11, 3) := by decide +kernel
theorem dX1_init_34 : decode cX1_init 34 = .ok (.putfield 21, 3) := by decide +kernel
theorem dX1_init_37 : decode cX1_init 37 = .ok (.aload_n 0, 1) := by decide +kernel
theorem dX1_init_38 : decode cX1_init 38 = .ok (.new 9, 3) := by decide +kernel
theorem dX1_init_41 : decode cX1_init 41 = .ok (.dup, 1) := by decide +kernel
theorem dX1_init_42 : decode cX1_init 42 = .ok (.invokespecial 11, 3) := by decide +kernel
theorem dX1_init_45 : decode cX1_init 45 = .ok (.putfield 24, 3) := by decide +kernel
theorem dX1_init_48 : decode cX1_init 48 = .ok (.aload_n 0, 1) := by decide +kernel
theorem dX1_init_49 : decode cX1_init 49 = .ok (.new 27, 3) := by decide +kernel
theorem dX1_init_52 : decode cX1_init 52 = .ok (.dup, 1) := by decide +kernel
theorem dX1_init_53 : decode cX1_init 53 = .ok (.invokespecial 29, 3) := by decide +kernel
theorem dX1_init_56 : decode cX1_init 56 = .ok (.putfield 30, 3) := by decide +kernel
theorem dX1_init_59 : decode cX1_init 59 = .ok (.aload_n 0, 1) := by decide +kernel
theorem dX1_init_60 : decode cX1_init 60 = .ok (.new 27, 3) := by decide +kernel
theorem dX1_init_63 : decode cX1_init 63 = .ok (.dup, 1) := by decide +kernel
theorem dX1_init_64 : decode cX1_init 64 = .ok (.invokespecial 29, 3) := by decide +kernel
theorem dX1_init_67 : decode cX1_init 67 = .ok (.putfield 34, 3) := by decide +kernel
theorem dX1_init_70 : decode cX1_init 70 = .ok (.aload_n 0, 1) := by decide +kernel
theorem dX1_init_71 : decode cX1_init 71 = .ok (.new 27, 3) := by decide +kernel
theorem dX1_init_74 : decode cX1_init 74 = .ok (.dup, 1) := by decide +kernel
theorem dX1_init_75 : decode cX1_init 75 = .ok (.invokespecial 29, 3) := by decide +kernel
theorem dX1_init_78 : decode cX1_init 78 = .ok (.putfield 37, 3) := by decide +kernel
theorem dX1_init_81 : decode cX1_init 81 = .ok (.aload_n 0, 1) := by decide +kernel
theorem dX1_init_82 : decode cX1_init 82 = .ok (.bipush 6, 2) := by decide +kernel
theorem dX1_init_84 : decode cX1_init 84 = .ok (.putfield 40, 3) := by decide +kernel
theorem dX1_init_87 : decode cX1_init 87 = .ok (.return_, 1) := by decide +kernel
theorem dX1_become_0 : decode cX1_become 0 = .ok (.aload_n 0, 1) := by decide +kernel
theorem dX1_become_1 : decode cX1_become 1 = .ok (.getfield 12, 3) := by decide +kernel
theorem dX1_become_4 : decode cX1_become 4 = .ok (.aload_n 1, 1) := by decide +kernel
theorem dX1_become_5 : decode cX1_become 5 = .ok (.getfield 12, 3) := by decide +kernel
theorem dX1_become_8 : decode cX1_become 8 = .ok (.invokevirtual 44, 3) := by decide +kernel
theorem dX1_become_11 : decode cX1_become 11 = .ok (.aload_n 0, 1) := by decide +kernel
theorem dX1_become_12 : decode cX1_become 12 = .ok (.getfield 18, 3) := by decide +kernel
theorem dX1_become_15 : decode cX1_become 15 = .ok (.aload_n 1, 1) := by decide +kernel
theorem dX1_become_16 : decode cX1_become 16 = .ok (.getfield 18, 3) := by decide +kernel
theorem dX1_become_19 : decode cX1_become 19 = .ok (.invokevirtual 44, 3) := by decide +kernel
theorem dX1_become_22 : decode cX1_become 22 = .ok (.aload_n 0, 1) := by decide +kernel
theorem dX1_become_23 : decode cX1_become 23 = .ok (.getfield 21, 3) := by decide +kernel
theorem dX1_become_26 : decode cX1_become 26 = .ok (.aload_n 1, 1) := by decide +kernel
theorem dX1_become_27 : decode cX1_become 27 = .ok (.getfield 21, 3) := by decide +kernel
theorem dX1_become_30 : decode cX1_become 30 = .ok (.invokevirtual 44, 3) := by decide +kernel
theorem dX1_become_33 : decode cX1_become 33 = .ok (.aload_n 0, 1) := by decide +kernel
theorem dX1_become_34 : decode cX1_become 34 = .ok (.getfield 24, 3) := by decide +kernel
theorem dX1_become_37 : decode cX1_become 37 = .ok (.aload_n 1, 1) := by decide +kernel
theorem dX1_become_38 : decode cX1_become 38 = .ok (.getfield 24, 3) := by decide +kernel
theorem dX1_become_41 : decode cX1_become 41 = .ok (.invokevirtual 44, 3) := by decide +kernel
theorem dX1_become_44 : decode cX1_become 44 = .ok (.aload_n 0, 1) := by decide +kernel
theorem dX1_become_45 : decode cX1_become 45 = .ok (.getfield 30, 3) := by decide +kernel
theorem dX1_become_48 : decode cX1_become 48 = .ok (.aload_n 1, 1) := by decide +kernel
theorem dX1_become_49 : decode cX1_become 49 = .ok (.getfield 30, 3) := by decide +kernel
theorem dX1_become_52 : decode cX1_become 52 = .ok (.invokevirtual 48, 3) := by decide +kernel
theorem dX1_become_55 : decode cX1_become 55 = .ok (.aload_n 0, 1) := by decide +kernel
theorem dX1_become_56 : decode cX1_become 56 = .ok (.getfield 34, 3) := by decide +kernel
theorem dX1_become_59 : decode cX1_become 59 = .ok (.aload_n 1, 1) := by decide +kernel
theorem dX1_become_60 : decode cX1_become 60 = .ok (.getfield 34, 3) := by decide +kernel
theorem dX1_become_63 : decode cX1_become 63 = .ok (.invokevirtual 48, 3) := by decide +kernel
theorem dX1_become_66 : decode cX1_become 66 = .ok (.aload_n 0, 1) := by decide +kernel
theorem dX1_become_67 : decode cX1_become 67 = .ok (.getfield 37, 3) := by decide +kernel
theorem dX1_become_70 : decode cX1_become 70 = .ok (.aload_n 1, 1) := by decide +kernel
theorem dX1_become_71 : decode cX1_become 71 = .ok (.getfield 37, 3) := by decide +kernel
theorem dX1_become_74 : decode cX1_become 74 = .ok (.invokevirtual 48, 3) := by decide +kernel
theorem dX1_become_77 : decode cX1_become 77 = .ok (.aload_n 0, 1) := by decide +kernel
theorem dX1_become_78 : decode cX1_become 78 = .ok (.aload_n 1, 1) := by decide +kernel
theorem dX1_become_79 : decode cX1_become 79 = .ok (.getfield 40, 3) := by decide +kernel
theorem dX1_become_82 : decode cX1_become 82 = .ok (.putfield 40, 3) := by decide +kernel
theorem dX1_become_85 : decode cX1_become 85 = .ok (.aload_n 0, 1) := by decide +kernel
theorem dX1_become_86 : decode cX1_become 86 = .ok (.aload_n 1, 1) := by decide +kernel
theorem dX1_become_87 : decode cX1_become 87 = .ok (.getfield 51, 3) := by decide +kernel
theorem dX1_become_90 : decode cX1_become 90 = .ok (.putfield 51, 3) := by decide +kernel
theorem dX1_become_93 : decode cX1_become 93 = .ok (.aload_n 0, 1) := by decide +kernel
theorem dX1_become_94 : decode cX1_become 94 = .ok (.aload_n 1, 1) := by decide +kernel
theorem dX1_become_95 : decode cX1_become 95 = .ok (.getfield 54, 3) := by decide +kernel
theorem dX1_become_98 : decode cX1_become 98 = .ok (.putfield 54, 3) := by decide +kernel
theorem dX1_become_101 : decode cX1_become 101 = .ok (.aload_n 0, 1) := by decide +kernel
theorem dX1_become_102 : decode cX1_become 102 = .ok (.aload_n 1, 1) := by decide +kernel
theorem dX1_become_103 : decode cX1_become 103 = .ok (.getfield 57, 3) := by decide +kernel
theorem dX1_become_106 : decode cX1_become 106 = .ok (.putfield 57, 3) := by decide +kernel
theorem dX1_become_109 : decode cX1_become 109 = .ok (.aload_n 0, 1) := by decide +kernel
theorem dX1_become_110 : decode cX1_become 110 = .ok (.aload_n 1, 1) := by decide +kernel
theorem dX1_become_111 : decode cX1_become 111 = .ok (.getfield 60, 3) := by decide +kernel
theorem dX1_become_114 : decode cX1_become 114 = .ok (.putfield 60, 3) := by decide +kernel
theorem dX1_become_117 : decode cX1_become 117 = .ok (.aload_n 0, 1) := by decide +kernel
theorem dX1_become_118 : decode cX1_become 118 = .ok (.aload_n 1, 1) := by decide +kernel
theorem dX1_become_119 : decode cX1_become 119 = .ok (.getfield 63, 3) := by decide +kernel
theorem dX1_become_122 : decode cX1_become 122 = .ok (.putfield 63, 3) := by decide +kernel
theorem dX1_become_125 : decode cX1_become 125 = .ok (.return_, 1) := by decide +kernel
theorem dX1_rowOf_0 : decode cX1_rowOf 0 = .ok (.iload_n 1, 1) := by decide +kernel
theorem dX1_rowOf_1 : decode cX1_rowOf 1 = .ok (.ifCond .ne 10, 3) := by decide +kernel
theorem dX1_rowOf_4 : decode cX1_rowOf 4 = .ok (.aload_n 0, 1) := by decide +kernel
theorem dX1_rowOf_5 : decode cX1_rowOf 5 = .ok (.getfield 12, 3) := by decide +kernel
theorem dX1_rowOf_8 : decode cX1_rowOf 8 = .ok (.goto 7, 3) := by decide +kernel
theorem dX1_rowOf_11 : decode cX1_rowOf 11 = .ok (.aload_n 0, 1) := by decide +kernel
theorem dX1_rowOf_12 : decode cX1_rowOf 12 = .ok (.getfield 18, 3) := by decide +kernel
theorem dX1_rowOf_15 : decode cX1_rowOf 15 = .ok (.areturn, 1) := by decide +kernel
theorem dX1_listOf_0 : decode cX1_listOf 0 = .ok (.iload_n 1, 1) := by decide +kernel
theorem dX1_listOf_1 : decode cX1_listOf 1 = .ok (.ifCond .ne 10, 3) := by decide +kernel
theorem dX1_listOf_4 : decode cX1_listOf 4 = .ok (.aload_n 0, 1) := by decide +kernel
theorem dX1_listOf_5 : decode cX1_listOf 5 = .ok (.getfield 21, 3) := by decide +kernel
theorem dX1_listOf_8 : decode cX1_listOf 8 = .ok (.goto 7, 3) := by decide +kernel
theorem dX1_listOf_11 : decode cX1_listOf 11 = .ok (.aload_n 0, 1) := by decide +kernel
theorem dX1_listOf_12 : decode cX1_listOf 12 = .ok (.getfield 24, 3) := by decide +kernel
theorem dX1_listOf_15 : decode cX1_listOf 15 = .ok (.areturn, 1) := by decide +kernel
theorem dX1_hasJar_0 : decode cX1_hasJar 0 = .ok (.aload_n 0, 1) := by decide +kernel
theorem dX1_hasJar_1 : decode cX1_hasJar 1 = .ok (.getfield 12, 3) := by decide +kernel
theorem dX1_hasJar_4 : decode cX1_hasJar 4 = .ok (.iload_n 1, 1) := by decide +kernel
theorem dX1_hasJar_5 : decode cX1_hasJar 5 = .ok (.invokevirtual 66, 3) := by decide +kernel
theorem dX1_hasJar_8 : decode cX1_hasJar 8 = .ok (.ifCond .ne 14, 3) := by decide +kernel
theorem dX1_hasJar_11 : decode cX1_hasJar 11 = .ok (.aload_n 0, 1) := by decide +kernel
theorem dX1_hasJar_12 : decode cX1_hasJar 12 = .ok (.getfield 18, 3) := by decide +kernel
theorem dX1_hasJar_15 : decode cX1_hasJar 15 = .ok (.iload_n 1, 1) := by decide +kernel
theorem dX1_hasJar_16 : decode cX1_hasJar 16 = .ok (.invokevirtual 66, 3) := by decide +kernel
theorem dX1_hasJar_19 : decode cX1_hasJar 19 = .ok (.ifCond .eq 7, 3) := by decide +kernel
theorem dX1_hasJar_22 : decode cX1_hasJar 22 = .ok (.iconst 1, 1) := by decide +kernel
theorem dX1_hasJar_23 : decode cX1_hasJar 23 = .ok (.goto 4, 3) := by decide +kernel
theorem dX1_hasJar_26 : decode cX1_hasJar 26 = .ok (.iconst 0, 1) := by decide +kernel
theorem dX1_hasJar_27 : decode cX1_hasJar 27 = .ok (.ireturn, 1) := by decide +kernel
theorem dX1_jars_0 : decode cX1_jars 0 = .ok (.aload_n 0, 1) := by decide +kernel
theorem dX1_jars_1 : decode cX1_jars 1 = .ok (.getfield 12, 3) := by decide +kernel
theorem dX1_jars_4 : decode cX1_jars 4 = .ok (.getfield 70, 3) := by decide +kernel
theorem dX1_jars_7 : decode cX1_jars 7 = .ok (.aload_n 0, 1) := by decide +kernel
theorem dX1_jars_8 : decode cX1_jars 8 = .ok (.getfield 18, 3) := by decide +kernel
theorem dX1_jars_11 : decode cX1_jars 11 = .ok (.getfield 70, 3) := by decide +kernel
theorem dX1_jars_14 : decode cX1_jars 14 = .ok (.iadd, 1) := by decide +kernel
theorem dX1_jars_15 : decode cX1_jars 15 = .ok (.ireturn, 1) := by decide +kernel
theorem dX1_pinnedJars_0 : decode cX1_pinnedJars 0 = .ok (.aload_n 0, 1) := by decide +kernel
theorem dX1_pinnedJars_1 : decode cX1_pinnedJars 1 = .ok (.aload_n 0, 1) := by decide +kernel
theorem dX1_pinnedJars_2 : decode cX1_pinnedJars 2 = .ok (.getfield 12, 3) := by decide +kernel
theorem dX1_pinnedJars_5 : decode cX1_pinnedJars 5 = .ok (.invokevirtual 73, 3) := by decide +kernel
theorem dX1_pinnedJars_8 : decode cX1_pinnedJars 8 = .ok (.aload_n 0, 1) := by decide +kernel
theorem dX1_pinnedJars_9 : decode cX1_pinnedJars 9 = .ok (.aload_n 0, 1) := by decide +kernel
theorem dX1_pinnedJars_10 : decode cX1_pinnedJars 10 = .ok (.getfield 18, 3) := by decide +kernel
theorem dX1_pinnedJars_13 : decode cX1_pinnedJars 13 = .ok (.invokevirtual 73, 3) := by decide +kernel
theorem dX1_pinnedJars_16 : decode cX1_pinnedJars 16 = .ok (.iadd, 1) := by decide +kernel
theorem dX1_pinnedJars_17 : decode cX1_pinnedJars 17 = .ok (.ireturn, 1) := by decide +kernel
theorem dX1_pinnedOn_0 : decode cX1_pinnedOn 0 = .ok (.iconst 0, 1) := by decide +kernel
theorem dX1_pinnedOn_1 : decode cX1_pinnedOn 1 = .ok (.istore_n 2, 1) := by decide +kernel
theorem dX1_pinnedOn_2 : decode cX1_pinnedOn 2 = .ok (.iconst 0, 1) := by decide +kernel
theorem dX1_pinnedOn_3 : decode cX1_pinnedOn 3 = .ok (.istore_n 3, 1) := by decide +kernel
theorem dX1_pinnedOn_4 : decode cX1_pinnedOn 4 = .ok (.iload_n 3, 1) := by decide +kernel
theorem dX1_pinnedOn_5 : decode cX1_pinnedOn 5 = .ok (.aload_n 1, 1) := by decide +kernel
theorem dX1_pinnedOn_6 : decode cX1_pinnedOn 6 = .ok (.getfield 70, 3) := by decide +kernel
theorem dX1_pinnedOn_9 : decode cX1_pinnedOn 9 = .ok (.if_icmp .ge 27, 3) := by decide +kernel
theorem dX1_pinnedOn_12 : decode cX1_pinnedOn 12 = .ok (.aload_n 0, 1) := by decide +kernel
theorem dX1_pinnedOn_13 : decode cX1_pinnedOn 13 = .ok (.getfield 34, 3) := by decide +kernel
theorem dX1_pinnedOn_16 : decode cX1_pinnedOn 16 = .ok (.aload_n 1, 1) := by decide +kernel
theorem dX1_pinnedOn_17 : decode cX1_pinnedOn 17 = .ok (.iload_n 3, 1) := by decide +kernel
theorem dX1_pinnedOn_18 : decode cX1_pinnedOn 18 = .ok (.invokevirtual 77, 3) := by decide +kernel
theorem dX1_pinnedOn_21 : decode cX1_pinnedOn 21 = .ok (.invokevirtual 81, 3) := by decide +kernel
theorem dX1_pinnedOn_24 : decode cX1_pinnedOn 24 = .ok (.ifCond .le 6, 3) := by decide +kernel
theorem dX1_pinnedOn_27 : decode cX1_pinnedOn 27 = .ok (.iinc 2 1, 3) := by decide +kernel
theorem dX1_pinnedOn_30 : decode cX1_pinnedOn 30 = .ok (.iinc 3 1, 3) := by decide +kernel
theorem dX1_pinnedOn_33 : decode cX1_pinnedOn 33 = .ok (.goto (-29), 3) := by decide +kernel
theorem dX1_pinnedOn_36 : decode cX1_pinnedOn 36 = .ok (.iload_n 2, 1) := by decide +kernel
theorem dX1_pinnedOn_37 : decode cX1_pinnedOn 37 = .ok (.ireturn, 1) := by decide +kernel
theorem dX1_forecast_0 : decode cX1_forecast 0 = .ok (.aload_n 0, 1) := by decide +kernel
theorem dX1_forecast_1 : decode cX1_forecast 1 = .ok (.iload_n 1, 1) := by decide +kernel
theorem dX1_forecast_2 : decode cX1_forecast 2 = .ok (.invokevirtual 84, 3) := by decide +kernel
theorem dX1_forecast_5 : decode cX1_forecast 5 = .ok (.ifCond .eq 5, 3) := by decide +kernel
theorem dX1_forecast_8 : decode cX1_forecast 8 = .ok (.iconst 0, 1) := by decide +kernel
theorem dX1_forecast_9 : decode cX1_forecast 9 = .ok (.ireturn, 1) := by decide +kernel
theorem dX1_forecast_10 : decode cX1_forecast 10 = .ok (.aload_n 0, 1) := by decide +kernel
theorem dX1_forecast_11 : decode cX1_forecast 11 = .ok (.invokevirtual 87, 3) := by decide +kernel
theorem dX1_forecast_14 : decode cX1_forecast 14 = .ok (.aload_n 0, 1) := by decide +kernel
theorem dX1_forecast_15 : decode cX1_forecast 15 = .ok (.getfield 40, 3) := by decide +kernel
theorem dX1_forecast_18 : decode cX1_forecast 18 = .ok (.if_icmp .lt 17, 3) := by decide +kernel
theorem dX1_forecast_21 : decode cX1_forecast 21 = .ok (.aload_n 0, 1) := by decide +kernel
theorem dX1_forecast_22 : decode cX1_forecast 22 = .ok (.invokevirtual 91, 3) := by decide +kernel
theorem dX1_forecast_25 : decode cX1_forecast 25 = .ok (.aload_n 0, 1) := by decide +kernel
theorem dX1_forecast_26 : decode cX1_forecast 26 = .ok (.invokevirtual 87, 3) := by decide +kernel
theorem dX1_forecast_29 : decode cX1_forecast 29 = .ok (.if_icmp .lt 6, 3) := by decide +kernel
theorem dX1_forecast_32 : decode cX1_forecast 32 = .ok (.bipush (-9), 2) := by decide +kernel
theorem dX1_forecast_34 : decode cX1_forecast 34 = .ok (.ireturn, 1) := by decide +kernel
theorem dX1_forecast_35 : decode cX1_forecast 35 = .ok (.aload_n 0, 1) := by decide +kernel
theorem dX1_forecast_36 : decode cX1_forecast 36 = .ok (.getfield 21, 3) := by decide +kernel
theorem dX1_forecast_39 : decode cX1_forecast 39 = .ok (.iload_n 1, 1) := by decide +kernel
theorem dX1_forecast_40 : decode cX1_forecast 40 = .ok (.invokevirtual 66, 3) := by decide +kernel
theorem dX1_forecast_43 : decode cX1_forecast 43 = .ok (.ifCond .eq 5, 3) := by decide +kernel
theorem dX1_forecast_46 : decode cX1_forecast 46 = .ok (.iconst 2, 1) := by decide +kernel
theorem dX1_forecast_47 : decode cX1_forecast 47 = .ok (.ireturn, 1) := by decide +kernel
theorem dX1_forecast_48 : decode cX1_forecast 48 = .ok (.aload_n 0, 1) := by decide +kernel
theorem dX1_forecast_49 : decode cX1_forecast 49 = .ok (.getfield 24, 3) := by decide +kernel
theorem dX1_forecast_52 : decode cX1_forecast 52 = .ok (.iload_n 1, 1) := by decide +kernel
theorem dX1_forecast_53 : decode cX1_forecast 53 = .ok (.invokevirtual 66, 3) := by decide +kernel
theorem dX1_forecast_56 : decode cX1_forecast 56 = .ok (.ifCond .eq 7, 3) := by decide +kernel
theorem dX1_forecast_59 : decode cX1_forecast 59 = .ok (.iconst 3, 1) := by decide +kernel
theorem dX1_forecast_60 : decode cX1_forecast 60 = .ok (.goto 4, 3) := by decide +kernel
theorem dX1_forecast_63 : decode cX1_forecast 63 = .ok (.iconst 1, 1) := by decide +kernel
theorem dX1_forecast_64 : decode cX1_forecast 64 = .ok (.ireturn, 1) := by decide +kernel
theorem dX1_bring_0 : decode cX1_bring 0 = .ok (.aload_n 0, 1) := by decide +kernel
theorem dX1_bring_1 : decode cX1_bring 1 = .ok (.iload_n 1, 1) := by decide +kernel
theorem dX1_bring_2 : decode cX1_bring 2 = .ok (.invokevirtual 94, 3) := by decide +kernel
theorem dX1_bring_5 : decode cX1_bring 5 = .ok (.istore_n 2, 1) := by decide +kernel
theorem dX1_bring_6 : decode cX1_bring 6 = .ok (.iload_n 2, 1) := by decide +kernel
theorem dX1_bring_7 : decode cX1_bring 7 = .ok (.bipush (-9), 2) := by decide +kernel
theorem dX1_bring_9 : decode cX1_bring 9 = .ok (.if_icmp .ne 5, 3) := by decide +kernel
theorem dX1_bring_12 : decode cX1_bring 12 = .ok (.iload_n 2, 1) := by decide +kernel
theorem dX1_bring_13 : decode cX1_bring 13 = .ok (.ireturn, 1) := by decide +kernel
theorem dX1_bring_14 : decode cX1_bring 14 = .ok (.iload_n 2, 1) := by decide +kernel
theorem dX1_bring_15 : decode cX1_bring 15 = .ok (.ifCond .ne 42, 3) := by decide +kernel
theorem dX1_bring_18 : decode cX1_bring 18 = .ok (.aload_n 0, 1) := by decide +kernel
theorem dX1_bring_19 : decode cX1_bring 19 = .ok (.dup, 1) := by decide +kernel
theorem dX1_bring_20 : decode cX1_bring 20 = .ok (.getfield 54, 3) := by decide +kernel
theorem dX1_bring_23 : decode cX1_bring 23 = .ok (.iconst 1, 1) := by decide +kernel
theorem dX1_bring_24 : decode cX1_bring 24 = .ok (.iadd, 1) := by decide +kernel
theorem dX1_bring_25 : decode cX1_bring 25 = .ok (.putfield 54, 3) := by decide +kernel
theorem dX1_bring_28 : decode cX1_bring 28 = .ok (.aload_n 0, 1) := by decide +kernel
theorem dX1_bring_29 : decode cX1_bring 29 = .ok (.getfield 30, 3) := by decide +kernel
theorem dX1_bring_32 : decode cX1_bring 32 = .ok (.iload_n 1, 1) := by decide +kernel
theorem dX1_bring_33 : decode cX1_bring 33 = .ok (.iconst 1, 1) := by decide +kernel
theorem dX1_bring_34 : decode cX1_bring 34 = .ok (.invokevirtual 97, 3) := by decide +kernel
theorem dX1_bring_37 : decode cX1_bring 37 = .ok (.aload_n 0, 1) := by decide +kernel
theorem dX1_bring_38 : decode cX1_bring 38 = .ok (.getfield 37, 3) := by decide +kernel
theorem dX1_bring_41 : decode cX1_bring 41 = .ok (.iload_n 1, 1) := by decide +kernel
theorem dX1_bring_42 : decode cX1_bring 42 = .ok (.aload_n 0, 1) := by decide +kernel
theorem dX1_bring_43 : decode cX1_bring 43 = .ok (.getfield 37, 3) := by decide +kernel
theorem dX1_bring_46 : decode cX1_bring 46 = .ok (.iload_n 1, 1) := by decide +kernel
theorem dX1_bring_47 : decode cX1_bring 47 = .ok (.invokevirtual 81, 3) := by decide +kernel
theorem dX1_bring_50 : decode cX1_bring 50 = .ok (.iconst 1, 1) := by decide +kernel
theorem dX1_bring_51 : decode cX1_bring 51 = .ok (.iadd, 1) := by decide +kernel
theorem dX1_bring_52 : decode cX1_bring 52 = .ok (.invokevirtual 97, 3) := by decide +kernel
theorem dX1_bring_55 : decode cX1_bring 55 = .ok (.iload_n 2, 1) := by decide +kernel
theorem dX1_bring_56 : decode cX1_bring 56 = .ok (.ireturn, 1) := by decide +kernel
theorem dX1_bring_57 : decode cX1_bring 57 = .ok (.aload_n 0, 1) := by decide +kernel
theorem dX1_bring_58 : decode cX1_bring 58 = .ok (.dup, 1) := by decide +kernel
theorem dX1_bring_59 : decode cX1_bring 59 = .ok (.getfield 57, 3) := by decide +kernel
theorem dX1_bring_62 : decode cX1_bring 62 = .ok (.iconst 1, 1) := by decide +kernel
theorem dX1_bring_63 : decode cX1_bring 63 = .ok (.iadd, 1) := by decide +kernel
theorem dX1_bring_64 : decode cX1_bring 64 = .ok (.putfield 57, 3) := by decide +kernel
theorem dX1_bring_67 : decode cX1_bring 67 = .ok (.aload_n 0, 1) := by decide +kernel
theorem dX1_bring_68 : decode cX1_bring 68 = .ok (.iload_n 1, 1) := by decide +kernel
theorem dX1_bring_69 : decode cX1_bring 69 = .ok (.iload_n 2, 1) := by decide +kernel
theorem dX1_bring_70 : decode cX1_bring 70 = .ok (.invokevirtual 101, 3) := by decide +kernel
theorem dX1_bring_73 : decode cX1_bring 73 = .ok (.aload_n 0, 1) := by decide +kernel
theorem dX1_bring_74 : decode cX1_bring 74 = .ok (.invokevirtual 87, 3) := by decide +kernel
theorem dX1_bring_77 : decode cX1_bring 77 = .ok (.aload_n 0, 1) := by decide +kernel
theorem dX1_bring_78 : decode cX1_bring 78 = .ok (.getfield 40, 3) := by decide +kernel
theorem dX1_bring_81 : decode cX1_bring 81 = .ok (.if_icmp .lt 8, 3) := by decide +kernel
theorem dX1_bring_84 : decode cX1_bring 84 = .ok (.aload_n 0, 1) := by decide +kernel
theorem dX1_bring_85 : decode cX1_bring 85 = .ok (.invokevirtual 104, 3) := by decide +kernel
theorem dX1_bring_88 : decode cX1_bring 88 = .ok (.pop, 1) := by decide +kernel
theorem dX1_bring_89 : decode cX1_bring 89 = .ok (.aload_n 0, 1) := by decide +kernel
theorem dX1_bring_90 : decode cX1_bring 90 = .ok (.iload_n 1, 1) := by decide +kernel
theorem dX1_bring_91 : decode cX1_bring 91 = .ok (.iload_n 2, 1) := by decide +kernel
theorem dX1_bring_92 : decode cX1_bring 92 = .ok (.iconst 1, 1) := by decide +kernel
theorem dX1_bring_93 : decode cX1_bring 93 = .ok (.if_icmp .ne 10, 3) := by decide +kernel
theorem dX1_bring_96 : decode cX1_bring 96 = .ok (.aload_n 0, 1) := by decide +kernel
theorem dX1_bring_97 : decode cX1_bring 97 = .ok (.getfield 12, 3) := by decide +kernel
theorem dX1_bring_100 : decode cX1_bring 100 = .ok (.goto 7, 3) := by decide +kernel
theorem dX1_bring_103 : decode cX1_bring 103 = .ok (.aload_n 0, 1) := by decide +kernel
theorem dX1_bring_104 : decode cX1_bring 104 = .ok (.getfield 18, 3) := by decide +kernel
theorem dX1_bring_107 : decode cX1_bring 107 = .ok (.invokevirtual 107, 3) := by decide +kernel
theorem dX1_bring_110 : decode cX1_bring 110 = .ok (.iload_n 2, 1) := by decide +kernel
theorem dX1_bring_111 : decode cX1_bring 111 = .ok (.ireturn, 1) := by decide +kernel
theorem dX1_bringSeries_0 : decode cX1_bringSeries 0 = .ok (.aload_n 0, 1) := by decide +kernel
theorem dX1_bringSeries_1 : decode cX1_bringSeries 1 = .ok (.getfield 54, 3) := by decide +kernel
theorem dX1_bringSeries_4 : decode cX1_bringSeries 4 = .ok (.istore 4, 2) := by decide +kernel
theorem dX1_bringSeries_6 : decode cX1_bringSeries 6 = .ok (.iconst 0, 1) := by decide +kernel
theorem dX1_bringSeries_7 : decode cX1_bringSeries 7 = .ok (.istore 5, 2) := by decide +kernel
theorem dX1_bringSeries_9 : decode cX1_bringSeries 9 = .ok (.iload 5, 2) := by decide +kernel
theorem dX1_bringSeries_11 : decode cX1_bringSeries 11 = .ok (.iload_n 3, 1) := by decide +kernel
theorem dX1_bringSeries_12 : decode cX1_bringSeries 12 = .ok (.if_icmp .ge 23, 3) := by decide +kernel
theorem dX1_bringSeries_15 : decode cX1_bringSeries 15 = .ok (.aload_n 0, 1) := by decide +kernel
theorem dX1_bringSeries_16 : decode cX1_bringSeries 16 = .ok (.iload_n 1, 1) := by decide +kernel
theorem dX1_bringSeries_17 : decode cX1_bringSeries 17 = .ok (.iload 5, 2) := by decide +kernel
theorem dX1_bringSeries_19 : decode cX1_bringSeries 19 = .ok (.iload_n 2, 1) := by decide +kernel
theorem dX1_bringSeries_20 : decode cX1_bringSeries 20 = .ok (.imul, 1) := by decide +kernel
theorem dX1_bringSeries_21 : decode cX1_bringSeries 21 = .ok (.iadd, 1) := by decide +kernel
theorem dX1_bringSeries_22 : decode cX1_bringSeries 22 = .ok (.bipush 40, 2) := by decide +kernel
theorem dX1_bringSeries_24 : decode cX1_bringSeries 24 = .ok (.irem, 1) := by decide +kernel
theorem dX1_bringSeries_25 : decode cX1_bringSeries 25 = .ok (.invokevirtual 111, 3) := by decide +kernel
theorem dX1_bringSeries_28 : decode cX1_bringSeries 28 = .ok (.pop, 1) := by decide +kernel
theorem dX1_bringSeries_29 : decode cX1_bringSeries 29 = .ok (.iinc 5 1, 3) := by decide +kernel
theorem dX1_bringSeries_32 : decode cX1_bringSeries 32 = .ok (.goto (-23), 3) := by decide +kernel
theorem dX1_bringSeries_35 : decode cX1_bringSeries 35 = .ok (.aload_n 0, 1) := by decide +kernel
theorem dX1_bringSeries_36 : decode cX1_bringSeries 36 = .ok (.getfield 54, 3) := by decide +kernel
theorem dX1_bringSeries_39 : decode cX1_bringSeries 39 = .ok (.iload 4, 2) := by decide +kernel
theorem dX1_bringSeries_41 : decode cX1_bringSeries 41 = .ok (.isub, 1) := by decide +kernel
theorem dX1_bringSeries_42 : decode cX1_bringSeries 42 = .ok (.ireturn, 1) := by decide +kernel
theorem dX1_recall_0 : decode cX1_recall 0 = .ok (.iload_n 2, 1) := by decide +kernel
theorem dX1_recall_1 : decode cX1_recall 1 = .ok (.iconst 2, 1) := by decide +kernel
theorem dX1_recall_2 : decode cX1_recall 2 = .ok (.if_icmp .ne 58, 3) := by decide +kernel
theorem dX1_recall_5 : decode cX1_recall 5 = .ok (.aload_n 0, 1) := by decide +kernel
theorem dX1_recall_6 : decode cX1_recall 6 = .ok (.aload_n 0, 1) := by decide +kernel
theorem dX1_recall_7 : decode cX1_recall 7 = .ok (.getfield 40, 3) := by decide +kernel
theorem dX1_recall_10 : decode cX1_recall 10 = .ok (.aload_n 0, 1) := by decide +kernel
theorem dX1_recall_11 : decode cX1_recall 11 = .ok (.getfield 51, 3) := by decide +kernel
theorem dX1_recall_14 : decode cX1_recall 14 = .ok (.aload_n 0, 1) := by decide +kernel
theorem dX1_recall_15 : decode cX1_recall 15 = .ok (.getfield 24, 3) := by decide +kernel
theorem dX1_recall_18 : decode cX1_recall 18 = .ok (.aload_n 0, 1) := by decide +kernel
theorem dX1_recall_19 : decode cX1_recall 19 = .ok (.getfield 21, 3) := by decide +kernel
theorem dX1_recall_22 : decode cX1_recall 22 = .ok (.invokestatic 114, 3) := by decide +kernel
theorem dX1_recall_25 : decode cX1_recall 25 = .ok (.iadd, 1) := by decide +kernel
theorem dX1_recall_26 : decode cX1_recall 26 = .ok (.invokestatic 118, 3) := by decide +kernel
theorem dX1_recall_29 : decode cX1_recall 29 = .ok (.putfield 51, 3) := by decide +kernel
theorem dX1_recall_32 : decode cX1_recall 32 = .ok (.aload_n 0, 1) := by decide +kernel
theorem dX1_recall_33 : decode cX1_recall 33 = .ok (.getfield 21, 3) := by decide +kernel
theorem dX1_recall_36 : decode cX1_recall 36 = .ok (.aload_n 0, 1) := by decide +kernel
theorem dX1_recall_37 : decode cX1_recall 37 = .ok (.getfield 21, 3) := by decide +kernel
theorem dX1_recall_40 : decode cX1_recall 40 = .ok (.iload_n 1, 1) := by decide +kernel
theorem dX1_recall_41 : decode cX1_recall 41 = .ok (.invokevirtual 124, 3) := by decide +kernel
theorem dX1_recall_44 : decode cX1_recall 44 = .ok (.invokevirtual 127, 3) := by decide +kernel
theorem dX1_recall_47 : decode cX1_recall 47 = .ok (.aload_n 0, 1) := by decide +kernel
theorem dX1_recall_48 : decode cX1_recall 48 = .ok (.dup, 1) := by decide +kernel
theorem dX1_recall_49 : decode cX1_recall 49 = .ok (.getfield 60, 3) := by decide +kernel
theorem dX1_recall_52 : decode cX1_recall 52 = .ok (.iconst 1, 1) := by decide +kernel
theorem dX1_recall_53 : decode cX1_recall 53 = .ok (.iadd, 1) := by decide +kernel
theorem dX1_recall_54 : decode cX1_recall 54 = .ok (.putfield 60, 3) := by decide +kernel
theorem dX1_recall_57 : decode cX1_recall 57 = .ok (.goto 57, 3) := by decide +kernel
theorem dX1_recall_60 : decode cX1_recall 60 = .ok (.iload_n 2, 1) := by decide +kernel
theorem dX1_recall_61 : decode cX1_recall 61 = .ok (.iconst 3, 1) := by decide +kernel
theorem dX1_recall_62 : decode cX1_recall 62 = .ok (.if_icmp .ne 52, 3) := by decide +kernel
theorem dX1_recall_65 : decode cX1_recall 65 = .ok (.aload_n 0, 1) := by decide +kernel
theorem dX1_recall_66 : decode cX1_recall 66 = .ok (.iconst 0, 1) := by decide +kernel
theorem dX1_recall_67 : decode cX1_recall 67 = .ok (.aload_n 0, 1) := by decide +kernel
theorem dX1_recall_68 : decode cX1_recall 68 = .ok (.getfield 51, 3) := by decide +kernel
theorem dX1_recall_71 : decode cX1_recall 71 = .ok (.aload_n 0, 1) := by decide +kernel
theorem dX1_recall_72 : decode cX1_recall 72 = .ok (.getfield 21, 3) := by decide +kernel
theorem dX1_recall_75 : decode cX1_recall 75 = .ok (.aload_n 0, 1) := by decide +kernel
theorem dX1_recall_76 : decode cX1_recall 76 = .ok (.getfield 24, 3) := by decide +kernel
theorem dX1_recall_79 : decode cX1_recall 79 = .ok (.invokestatic 114, 3) := by decide +kernel
theorem dX1_recall_82 : decode cX1_recall 82 = .ok (.isub, 1) := by decide +kernel
theorem dX1_recall_83 : decode cX1_recall 83 = .ok (.invokestatic 131, 3) := by decide +kernel
theorem dX1_recall_86 : decode cX1_recall 86 = .ok (.putfield 51, 3) := by decide +kernel
theorem dX1_recall_89 : decode cX1_recall 89 = .ok (.aload_n 0, 1) := by decide +kernel
theorem dX1_recall_90 : decode cX1_recall 90 = .ok (.getfield 24, 3) := by decide +kernel
theorem dX1_recall_93 : decode cX1_recall 93 = .ok (.aload_n 0, 1) := by decide +kernel
theorem dX1_recall_94 : decode cX1_recall 94 = .ok (.getfield 24, 3) := by decide +kernel
theorem dX1_recall_97 : decode cX1_recall 97 = .ok (.iload_n 1, 1) := by decide +kernel
theorem dX1_recall_98 : decode cX1_recall 98 = .ok (.invokevirtual 124, 3) := by decide +kernel
theorem dX1_recall_101 : decode cX1_recall 101 = .ok (.invokevirtual 127, 3) := by decide +kernel
theorem dX1_recall_104 : decode cX1_recall 104 = .ok (.aload_n 0, 1) := by decide +kernel
theorem dX1_recall_105 : decode cX1_recall 105 = .ok (.dup, 1) := by decide +kernel
theorem dX1_recall_106 : decode cX1_recall 106 = .ok (.getfield 60, 3) := by decide +kernel
theorem dX1_recall_109 : decode cX1_recall 109 = .ok (.iconst 1, 1) := by decide +kernel
theorem dX1_recall_110 : decode cX1_recall 110 = .ok (.iadd, 1) := by decide +kernel
theorem dX1_recall_111 : decode cX1_recall 111 = .ok (.putfield 60, 3) := by decide +kernel
theorem dX1_recall_114 : decode cX1_recall 114 = .ok (.return_, 1) := by decide +kernel
theorem dX1_turn_0 : decode cX1_turn 0 = .ok (.aload_n 1, 1) := by decide +kernel
theorem dX1_turn_1 : decode cX1_turn 1 = .ok (.getfield 70, 3) := by decide +kernel
theorem dX1_turn_4 : decode cX1_turn 4 = .ok (.istore_n 2, 1) := by decide +kernel
theorem dX1_turn_5 : decode cX1_turn 5 = .ok (.iload_n 2, 1) := by decide +kernel
theorem dX1_turn_6 : decode cX1_turn 6 = .ok (.iconst 1, 1) := by decide +kernel
theorem dX1_turn_7 : decode cX1_turn 7 = .ok (.if_icmp .ge 7, 3) := by decide +kernel
theorem dX1_turn_10 : decode cX1_turn 10 = .ok (.iconst 1, 1) := by decide +kernel
theorem dX1_turn_11 : decode cX1_turn 11 = .ok (.goto 13, 3) := by decide +kernel
theorem dX1_turn_14 : decode cX1_turn 14 = .ok (.iconst 1, 1) := by decide +kernel
theorem dX1_turn_15 : decode cX1_turn 15 = .ok (.aload_n 0, 1) := by decide +kernel
theorem dX1_turn_16 : decode cX1_turn 16 = .ok (.getfield 70, 3) := by decide +kernel
theorem dX1_turn_19 : decode cX1_turn 19 = .ok (.iload_n 2, 1) := by decide +kernel
theorem dX1_turn_20 : decode cX1_turn 20 = .ok (.idiv, 1) := by decide +kernel
theorem dX1_turn_21 : decode cX1_turn 21 = .ok (.invokestatic 131, 3) := by decide +kernel
theorem dX1_turn_24 : decode cX1_turn 24 = .ok (.ireturn, 1) := by decide +kernel
theorem dX1_placeNewJar_0 : decode cX1_placeNewJar 0 = .ok (.aload_n 2, 1) := by decide +kernel
theorem dX1_placeNewJar_1 : decode cX1_placeNewJar 1 = .ok (.iload_n 1, 1) := by decide +kernel
theorem dX1_placeNewJar_2 : decode cX1_placeNewJar 2 = .ok (.invokevirtual 134, 3) := by decide +kernel
theorem dX1_placeNewJar_5 : decode cX1_placeNewJar 5 = .ok (.aload_n 0, 1) := by decide +kernel
theorem dX1_placeNewJar_6 : decode cX1_placeNewJar 6 = .ok (.getfield 30, 3) := by decide +kernel
theorem dX1_placeNewJar_9 : decode cX1_placeNewJar 9 = .ok (.iload_n 1, 1) := by decide +kernel
theorem dX1_placeNewJar_10 : decode cX1_placeNewJar 10 = .ok (.iconst 0, 1) := by decide +kernel
theorem dX1_placeNewJar_11 : decode cX1_placeNewJar 11 = .ok (.invokevirtual 97, 3) := by decide +kernel
theorem dX1_placeNewJar_14 : decode cX1_placeNewJar 14 = .ok (.aload_n 0, 1) := by decide +kernel
theorem dX1_placeNewJar_15 : decode cX1_placeNewJar 15 = .ok (.getfield 34, 3) := by decide +kernel
theorem dX1_placeNewJar_18 : decode cX1_placeNewJar 18 = .ok (.iload_n 1, 1) := by decide +kernel
theorem dX1_placeNewJar_19 : decode cX1_placeNewJar 19 = .ok (.iconst 0, 1) := by decide +kernel
theorem dX1_placeNewJar_20 : decode cX1_placeNewJar 20 = .ok (.invokevirtual 97, 3) := by decide +kernel
theorem dX1_placeNewJar_23 : decode cX1_placeNewJar 23 = .ok (.aload_n 0, 1) := by decide +kernel
theorem dX1_placeNewJar_24 : decode cX1_placeNewJar 24 = .ok (.getfield 37, 3) := by decide +kernel
theorem dX1_placeNewJar_27 : decode cX1_placeNewJar 27 = .ok (.iload_n 1, 1) := by decide +kernel
theorem dX1_placeNewJar_28 : decode cX1_placeNewJar 28 = .ok (.iconst 1, 1) := by decide +kernel
theorem dX1_placeNewJar_29 : decode cX1_placeNewJar 29 = .ok (.invokevirtual 97, 3) := by decide +kernel
theorem dX1_placeNewJar_32 : decode cX1_placeNewJar 32 = .ok (.return_, 1) := by decide +kernel
theorem dX1_sweep_0 : decode cX1_sweep 0 = .ok (.aload_n 0, 1) := by decide +kernel
theorem dX1_sweep_1 : decode cX1_sweep 1 = .ok (.invokevirtual 91, 3) := by decide +kernel
theorem dX1_sweep_4 : decode cX1_sweep 4 = .ok (.aload_n 0, 1) := by decide +kernel
theorem dX1_sweep_5 : decode cX1_sweep 5 = .ok (.invokevirtual 87, 3) := by decide +kernel
theorem dX1_sweep_8 : decode cX1_sweep 8 = .ok (.if_icmp .lt 5, 3) := by decide +kernel
theorem dX1_sweep_11 : decode cX1_sweep 11 = .ok (.iconst (-1), 1) := by decide +kernel
theorem dX1_sweep_12 : decode cX1_sweep 12 = .ok (.ireturn, 1) := by decide +kernel
theorem dX1_sweep_13 : decode cX1_sweep 13 = .ok (.iconst 0, 1) := by decide +kernel
theorem dX1_sweep_14 : decode cX1_sweep 14 = .ok (.istore_n 1, 1) := by decide +kernel
theorem dX1_sweep_15 : decode cX1_sweep 15 = .ok (.iload_n 1, 1) := by decide +kernel
theorem dX1_sweep_16 : decode cX1_sweep 16 = .ok (.ldc 137, 2) := by decide +kernel
theorem dX1_sweep_18 : decode cX1_sweep 18 = .ok (.if_icmp .ge 122, 3) := by decide +kernel
theorem dX1_sweep_21 : decode cX1_sweep 21 = .ok (.aload_n 0, 1) := by decide +kernel
theorem dX1_sweep_22 : decode cX1_sweep 22 = .ok (.invokevirtual 138, 3) := by decide +kernel
theorem dX1_sweep_25 : decode cX1_sweep 25 = .ok (.istore_n 2, 1) := by decide +kernel
theorem dX1_sweep_26 : decode cX1_sweep 26 = .ok (.aload_n 0, 1) := by decide +kernel
theorem dX1_sweep_27 : decode cX1_sweep 27 = .ok (.iload_n 2, 1) := by decide +kernel
theorem dX1_sweep_28 : decode cX1_sweep 28 = .ok (.invokevirtual 141, 3) := by decide +kernel
theorem dX1_sweep_31 : decode cX1_sweep 31 = .ok (.astore_n 3, 1) := by decide +kernel
theorem dX1_sweep_32 : decode cX1_sweep 32 = .ok (.aload_n 3, 1) := by decide +kernel
theorem dX1_sweep_33 : decode cX1_sweep 33 = .ok (.iconst 0, 1) := by decide +kernel
theorem dX1_sweep_34 : decode cX1_sweep 34 = .ok (.invokevirtual 77, 3) := by decide +kernel
theorem dX1_sweep_37 : decode cX1_sweep 37 = .ok (.istore 4, 2) := by decide +kernel
theorem dX1_sweep_39 : decode cX1_sweep 39 = .ok (.aload_n 3, 1) := by decide +kernel
theorem dX1_sweep_40 : decode cX1_sweep 40 = .ok (.iconst 0, 1) := by decide +kernel
theorem dX1_sweep_41 : decode cX1_sweep 41 = .ok (.invokevirtual 127, 3) := by decide +kernel
theorem dX1_sweep_44 : decode cX1_sweep 44 = .ok (.aload_n 0, 1) := by decide +kernel
theorem dX1_sweep_45 : decode cX1_sweep 45 = .ok (.dup, 1) := by decide +kernel
theorem dX1_sweep_46 : decode cX1_sweep 46 = .ok (.getfield 63, 3) := by decide +kernel
theorem dX1_sweep_49 : decode cX1_sweep 49 = .ok (.iconst 1, 1) := by decide +kernel
theorem dX1_sweep_50 : decode cX1_sweep 50 = .ok (.iadd, 1) := by decide +kernel
theorem dX1_sweep_51 : decode cX1_sweep 51 = .ok (.putfield 63, 3) := by decide +kernel
theorem dX1_sweep_54 : decode cX1_sweep 54 = .ok (.aload_n 0, 1) := by decide +kernel
theorem dX1_sweep_55 : decode cX1_sweep 55 = .ok (.getfield 34, 3) := by decide +kernel
theorem dX1_sweep_58 : decode cX1_sweep 58 = .ok (.iload 4, 2) := by decide +kernel
theorem dX1_sweep_60 : decode cX1_sweep 60 = .ok (.invokevirtual 81, 3) := by decide +kernel
theorem dX1_sweep_63 : decode cX1_sweep 63 = .ok (.ifCond .le 12, 3) := by decide +kernel
theorem dX1_sweep_66 : decode cX1_sweep 66 = .ok (.aload_n 3, 1) := by decide +kernel
theorem dX1_sweep_67 : decode cX1_sweep 67 = .ok (.iload 4, 2) := by decide +kernel
theorem dX1_sweep_69 : decode cX1_sweep 69 = .ok (.invokevirtual 134, 3) := by decide +kernel
theorem dX1_sweep_72 : decode cX1_sweep 72 = .ok (.goto 62, 3) := by decide +kernel
theorem dX1_sweep_75 : decode cX1_sweep 75 = .ok (.aload_n 0, 1) := by decide +kernel
theorem dX1_sweep_76 : decode cX1_sweep 76 = .ok (.getfield 30, 3) := by decide +kernel
theorem dX1_sweep_79 : decode cX1_sweep 79 = .ok (.iload 4, 2) := by decide +kernel
theorem dX1_sweep_81 : decode cX1_sweep 81 = .ok (.invokevirtual 81, 3) := by decide +kernel
theorem dX1_sweep_84 : decode cX1_sweep 84 = .ok (.ifCond .le 25, 3) := by decide +kernel
theorem dX1_sweep_87 : decode cX1_sweep 87 = .ok (.aload_n 0, 1) := by decide +kernel
theorem dX1_sweep_88 : decode cX1_sweep 88 = .ok (.getfield 30, 3) := by decide +kernel
theorem dX1_sweep_91 : decode cX1_sweep 91 = .ok (.iload 4, 2) := by decide +kernel
theorem dX1_sweep_93 : decode cX1_sweep 93 = .ok (.iconst 0, 1) := by decide +kernel
theorem dX1_sweep_94 : decode cX1_sweep 94 = .ok (.invokevirtual 97, 3) := by decide +kernel
theorem dX1_sweep_97 : decode cX1_sweep 97 = .ok (.aload_n 0, 1) := by decide +kernel
theorem dX1_sweep_98 : decode cX1_sweep 98 = .ok (.getfield 18, 3) := by decide +kernel
theorem dX1_sweep_101 : decode cX1_sweep 101 = .ok (.iload 4, 2) := by decide +kernel
theorem dX1_sweep_103 : decode cX1_sweep 103 = .ok (.invokevirtual 134, 3) := by decide +kernel
theorem dX1_sweep_106 : decode cX1_sweep 106 = .ok (.goto 28, 3) := by decide +kernel
theorem dX1_sweep_109 : decode cX1_sweep 109 = .ok (.aload_n 0, 1) := by decide +kernel
theorem dX1_sweep_110 : decode cX1_sweep 110 = .ok (.iload_n 2, 1) := by decide +kernel
theorem dX1_sweep_111 : decode cX1_sweep 111 = .ok (.invokevirtual 145, 3) := by decide +kernel
theorem dX1_sweep_114 : decode cX1_sweep 114 = .ok (.iload 4, 2) := by decide +kernel
theorem dX1_sweep_116 : decode cX1_sweep 116 = .ok (.invokevirtual 134, 3) := by decide +kernel
theorem dX1_sweep_119 : decode cX1_sweep 119 = .ok (.aload_n 0, 1) := by decide +kernel
theorem dX1_sweep_120 : decode cX1_sweep 120 = .ok (.iload_n 2, 1) := by decide +kernel
theorem dX1_sweep_121 : decode cX1_sweep 121 = .ok (.invokevirtual 145, 3) := by decide +kernel
theorem dX1_sweep_124 : decode cX1_sweep 124 = .ok (.aload_n 0, 1) := by decide +kernel
theorem dX1_sweep_125 : decode cX1_sweep 125 = .ok (.getfield 40, 3) := by decide +kernel
theorem dX1_sweep_128 : decode cX1_sweep 128 = .ok (.invokevirtual 148, 3) := by decide +kernel
theorem dX1_sweep_131 : decode cX1_sweep 131 = .ok (.iload 4, 2) := by decide +kernel
theorem dX1_sweep_133 : decode cX1_sweep 133 = .ok (.ireturn, 1) := by decide +kernel
theorem dX1_sweep_134 : decode cX1_sweep 134 = .ok (.iinc 1 1, 3) := by decide +kernel
theorem dX1_sweep_137 : decode cX1_sweep 137 = .ok (.goto (-122), 3) := by decide +kernel
theorem dX1_sweep_140 : decode cX1_sweep 140 = .ok (.iconst (-1), 1) := by decide +kernel
theorem dX1_sweep_141 : decode cX1_sweep 141 = .ok (.ireturn, 1) := by decide +kernel
theorem dX1_givingShelf_0 : decode cX1_givingShelf 0 = .ok (.aload_n 0, 1) := by decide +kernel
theorem dX1_givingShelf_1 : decode cX1_givingShelf 1 = .ok (.aload_n 0, 1) := by decide +kernel
theorem dX1_givingShelf_2 : decode cX1_givingShelf 2 = .ok (.getfield 12, 3) := by decide +kernel
theorem dX1_givingShelf_5 : decode cX1_givingShelf 5 = .ok (.invokevirtual 73, 3) := by decide +kernel
theorem dX1_givingShelf_8 : decode cX1_givingShelf 8 = .ok (.aload_n 0, 1) := by decide +kernel
theorem dX1_givingShelf_9 : decode cX1_givingShelf 9 = .ok (.getfield 12, 3) := by decide +kernel
theorem dX1_givingShelf_12 : decode cX1_givingShelf 12 = .ok (.getfield 70, 3) := by decide +kernel
theorem dX1_givingShelf_15 : decode cX1_givingShelf 15 = .ok (.if_icmp .ge 7, 3) := by decide +kernel
theorem dX1_givingShelf_18 : decode cX1_givingShelf 18 = .ok (.iconst 1, 1) := by decide +kernel
theorem dX1_givingShelf_19 : decode cX1_givingShelf 19 = .ok (.goto 4, 3) := by decide +kernel
theorem dX1_givingShelf_22 : decode cX1_givingShelf 22 = .ok (.iconst 0, 1) := by decide +kernel
theorem dX1_givingShelf_23 : decode cX1_givingShelf 23 = .ok (.istore_n 1, 1) := by decide +kernel
theorem dX1_givingShelf_24 : decode cX1_givingShelf 24 = .ok (.aload_n 0, 1) := by decide +kernel
theorem dX1_givingShelf_25 : decode cX1_givingShelf 25 = .ok (.getfield 12, 3) := by decide +kernel
theorem dX1_givingShelf_28 : decode cX1_givingShelf 28 = .ok (.getfield 70, 3) := by decide +kernel
theorem dX1_givingShelf_31 : decode cX1_givingShelf 31 = .ok (.iconst 1, 1) := by decide +kernel
theorem dX1_givingShelf_32 : decode cX1_givingShelf 32 = .ok (.aload_n 0, 1) := by decide +kernel
theorem dX1_givingShelf_33 : decode cX1_givingShelf 33 = .ok (.getfield 51, 3) := by decide +kernel
theorem dX1_givingShelf_36 : decode cX1_givingShelf 36 = .ok (.invokestatic 131, 3) := by decide +kernel
theorem dX1_givingShelf_39 : decode cX1_givingShelf 39 = .ok (.if_icmp .lt 7, 3) := by decide +kernel
theorem dX1_givingShelf_42 : decode cX1_givingShelf 42 = .ok (.iconst 1, 1) := by decide +kernel
theorem dX1_givingShelf_43 : decode cX1_givingShelf 43 = .ok (.goto 4, 3) := by decide +kernel
theorem dX1_givingShelf_46 : decode cX1_givingShelf 46 = .ok (.iconst 0, 1) := by decide +kernel
theorem dX1_givingShelf_47 : decode cX1_givingShelf 47 = .ok (.istore_n 2, 1) := by decide +kernel
theorem dX1_givingShelf_48 : decode cX1_givingShelf 48 = .ok (.aload_n 0, 1) := by decide +kernel
theorem dX1_givingShelf_49 : decode cX1_givingShelf 49 = .ok (.aload_n 0, 1) := by decide +kernel
theorem dX1_givingShelf_50 : decode cX1_givingShelf 50 = .ok (.getfield 18, 3) := by decide +kernel
theorem dX1_givingShelf_53 : decode cX1_givingShelf 53 = .ok (.invokevirtual 73, 3) := by decide +kernel
theorem dX1_givingShelf_56 : decode cX1_givingShelf 56 = .ok (.aload_n 0, 1) := by decide +kernel
theorem dX1_givingShelf_57 : decode cX1_givingShelf 57 = .ok (.getfield 18, 3) := by decide +kernel
theorem dX1_givingShelf_60 : decode cX1_givingShelf 60 = .ok (.getfield 70, 3) := by decide +kernel
theorem dX1_givingShelf_63 : decode cX1_givingShelf 63 = .ok (.if_icmp .lt 7, 3) := by decide +kernel
theorem dX1_givingShelf_66 : decode cX1_givingShelf 66 = .ok (.iconst 1, 1) := by decide +kernel
theorem dX1_givingShelf_67 : decode cX1_givingShelf 67 = .ok (.goto 4, 3) := by decide +kernel
theorem dX1_givingShelf_70 : decode cX1_givingShelf 70 = .ok (.iconst 0, 1) := by decide +kernel
theorem dX1_givingShelf_71 : decode cX1_givingShelf 71 = .ok (.istore_n 3, 1) := by decide +kernel
theorem dX1_givingShelf_72 : decode cX1_givingShelf 72 = .ok (.iload_n 1, 1) := by decide +kernel
theorem dX1_givingShelf_73 : decode cX1_givingShelf 73 = .ok (.ifCond .eq 15, 3) := by decide +kernel
theorem dX1_givingShelf_76 : decode cX1_givingShelf 76 = .ok (.iload_n 2, 1) := by decide +kernel
theorem dX1_givingShelf_77 : decode cX1_givingShelf 77 = .ok (.ifCond .ne 7, 3) := by decide +kernel
theorem dX1_givingShelf_80 : decode cX1_givingShelf 80 = .ok (.iload_n 3, 1) := by decide +kernel
theorem dX1_givingShelf_81 : decode cX1_givingShelf 81 = .ok (.ifCond .eq 7, 3) := by decide +kernel
theorem dX1_givingShelf_84 : decode cX1_givingShelf 84 = .ok (.iconst 0, 1) := by decide +kernel
theorem dX1_givingShelf_85 : decode cX1_givingShelf 85 = .ok (.goto 4, 3) := by decide +kernel
theorem dX1_givingShelf_88 : decode cX1_givingShelf 88 = .ok (.iconst 1, 1) := by decide +kernel
theorem dX1_givingShelf_89 : decode cX1_givingShelf 89 = .ok (.ireturn, 1) := by decide +kernel
theorem dX1_changePins_0 : decode cX1_changePins 0 = .ok (.aload_n 0, 1) := by decide +kernel
theorem dX1_changePins_1 : decode cX1_changePins 1 = .ok (.getfield 34, 3) := by decide +kernel
theorem dX1_changePins_4 : decode cX1_changePins 4 = .ok (.iload_n 1, 1) := by decide +kernel
theorem dX1_changePins_5 : decode cX1_changePins 5 = .ok (.aload_n 0, 1) := by decide +kernel
theorem dX1_changePins_6 : decode cX1_changePins 6 = .ok (.getfield 34, 3) := by decide +kernel
theorem dX1_changePins_9 : decode cX1_changePins 9 = .ok (.iload_n 1, 1) := by decide +kernel
theorem dX1_changePins_10 : decode cX1_changePins 10 = .ok (.invokevirtual 81, 3) := by decide +kernel
theorem dX1_changePins_13 : decode cX1_changePins 13 = .ok (.iload_n 2, 1) := by decide +kernel
theorem dX1_changePins_14 : decode cX1_changePins 14 = .ok (.iadd, 1) := by decide +kernel
theorem dX1_changePins_15 : decode cX1_changePins 15 = .ok (.invokevirtual 97, 3) := by decide +kernel
theorem dX1_changePins_18 : decode cX1_changePins 18 = .ok (.aload_n 0, 1) := by decide +kernel
theorem dX1_changePins_19 : decode cX1_changePins 19 = .ok (.getfield 34, 3) := by decide +kernel
theorem dX1_changePins_22 : decode cX1_changePins 22 = .ok (.iload_n 1, 1) := by decide +kernel
theorem dX1_changePins_23 : decode cX1_changePins 23 = .ok (.invokevirtual 81, 3) := by decide +kernel
theorem dX1_changePins_26 : decode cX1_changePins 26 = .ok (.ireturn, 1) := by decide +kernel
theorem dX1_remove_0 : decode cX1_remove 0 = .ok (.aload_n 0, 1) := by decide +kernel
theorem dX1_remove_1 : decode cX1_remove 1 = .ok (.getfield 12, 3) := by decide +kernel
theorem dX1_remove_4 : decode cX1_remove 4 = .ok (.aload_n 0, 1) := by decide +kernel
theorem dX1_remove_5 : decode cX1_remove 5 = .ok (.getfield 12, 3) := by decide +kernel
theorem dX1_remove_8 : decode cX1_remove 8 = .ok (.iload_n 1, 1) := by decide +kernel
theorem dX1_remove_9 : decode cX1_remove 9 = .ok (.invokevirtual 124, 3) := by decide +kernel
theorem dX1_remove_12 : decode cX1_remove 12 = .ok (.invokevirtual 127, 3) := by decide +kernel
theorem dX1_remove_15 : decode cX1_remove 15 = .ok (.aload_n 0, 1) := by decide +kernel
theorem dX1_remove_16 : decode cX1_remove 16 = .ok (.getfield 18, 3) := by decide +kernel
theorem dX1_remove_19 : decode cX1_remove 19 = .ok (.aload_n 0, 1) := by decide +kernel
theorem dX1_remove_20 : decode cX1_remove 20 = .ok (.getfield 18, 3) := by decide +kernel
theorem dX1_remove_23 : decode cX1_remove 23 = .ok (.iload_n 1, 1) := by decide +kernel
theorem dX1_remove_24 : decode cX1_remove 24 = .ok (.invokevirtual 124, 3) := by decide +kernel
theorem dX1_remove_27 : decode cX1_remove 27 = .ok (.invokevirtual 127, 3) := by decide +kernel
theorem dX1_remove_30 : decode cX1_remove 30 = .ok (.aload_n 0, 1) := by decide +kernel
theorem dX1_remove_31 : decode cX1_remove 31 = .ok (.getfield 37, 3) := by decide +kernel
theorem dX1_remove_34 : decode cX1_remove 34 = .ok (.iload_n 1, 1) := by decide +kernel
theorem dX1_remove_35 : decode cX1_remove 35 = .ok (.invokevirtual 81, 3) := by decide +kernel
theorem dX1_remove_38 : decode cX1_remove 38 = .ok (.ireturn, 1) := by decide +kernel
theorem dX1_resize_0 : decode cX1_resize 0 = .ok (.aload_n 0, 1) := by decide +kernel
theorem dX1_resize_1 : decode cX1_resize 1 = .ok (.iload_n 1, 1) := by decide +kernel
theorem dX1_resize_2 : decode cX1_resize 2 = .ok (.putfield 40, 3) := by decide +kernel
theorem dX1_resize_5 : decode cX1_resize 5 = .ok (.aload_n 0, 1) := by decide +kernel
theorem dX1_resize_6 : decode cX1_resize 6 = .ok (.invokevirtual 87, 3) := by decide +kernel
theorem dX1_resize_9 : decode cX1_resize 9 = .ok (.aload_n 0, 1) := by decide +kernel
theorem dX1_resize_10 : decode cX1_resize 10 = .ok (.getfield 40, 3) := by decide +kernel
theorem dX1_resize_13 : decode cX1_resize 13 = .ok (.isub, 1) := by decide +kernel
theorem dX1_resize_14 : decode cX1_resize 14 = .ok (.istore_n 2, 1) := by decide +kernel
theorem dX1_resize_15 : decode cX1_resize 15 = .ok (.iload_n 2, 1) := by decide +kernel
theorem dX1_resize_16 : decode cX1_resize 16 = .ok (.ifCond .le 14, 3) := by decide +kernel
theorem dX1_resize_19 : decode cX1_resize 19 = .ok (.aload_n 0, 1) := by decide +kernel
theorem dX1_resize_20 : decode cX1_resize 20 = .ok (.invokevirtual 104, 3) := by decide +kernel
theorem dX1_resize_23 : decode cX1_resize 23 = .ok (.pop, 1) := by decide +kernel
theorem dX1_resize_24 : decode cX1_resize 24 = .ok (.iinc 2 (-1), 3) := by decide +kernel
theorem dX1_resize_27 : decode cX1_resize 27 = .ok (.goto (-12), 3) := by decide +kernel
theorem dX1_resize_30 : decode cX1_resize 30 = .ok (.aload_n 0, 1) := by decide +kernel
theorem dX1_resize_31 : decode cX1_resize 31 = .ok (.aload_n 0, 1) := by decide +kernel
theorem dX1_resize_32 : decode cX1_resize 32 = .ok (.getfield 51, 3) := by decide +kernel
theorem dX1_resize_35 : decode cX1_resize 35 = .ok (.aload_n 0, 1) := by decide +kernel
theorem dX1_resize_36 : decode cX1_resize 36 = .ok (.getfield 40, 3) := by decide +kernel
theorem dX1_resize_39 : decode cX1_resize 39 = .ok (.invokestatic 118, 3) := by decide +kernel
theorem dX1_resize_42 : decode cX1_resize 42 = .ok (.putfield 51, 3) := by decide +kernel
theorem dX1_resize_45 : decode cX1_resize 45 = .ok (.aload_n 0, 1) := by decide +kernel
theorem dX1_resize_46 : decode cX1_resize 46 = .ok (.getfield 21, 3) := by decide +kernel
theorem dX1_resize_49 : decode cX1_resize 49 = .ok (.aload_n 0, 1) := by decide +kernel
theorem dX1_resize_50 : decode cX1_resize 50 = .ok (.getfield 40, 3) := by decide +kernel
theorem dX1_resize_53 : decode cX1_resize 53 = .ok (.invokevirtual 148, 3) := by decide +kernel
theorem dX1_resize_56 : decode cX1_resize 56 = .ok (.aload_n 0, 1) := by decide +kernel
theorem dX1_resize_57 : decode cX1_resize 57 = .ok (.getfield 24, 3) := by decide +kernel
theorem dX1_resize_60 : decode cX1_resize 60 = .ok (.aload_n 0, 1) := by decide +kernel
theorem dX1_resize_61 : decode cX1_resize 61 = .ok (.getfield 40, 3) := by decide +kernel
theorem dX1_resize_64 : decode cX1_resize 64 = .ok (.invokevirtual 148, 3) := by decide +kernel
theorem dX1_resize_67 : decode cX1_resize 67 = .ok (.return_, 1) := by decide +kernel
theorem dX1_detail_0 : decode cX1_detail 0 = .ok (.aload_n 0, 1) := by decide +kernel
theorem dX1_detail_1 : decode cX1_detail 1 = .ok (.getfield 12, 3) := by decide +kernel
theorem dX1_detail_4 : decode cX1_detail 4 = .ok (.iload_n 1, 1) := by decide +kernel
theorem dX1_detail_5 : decode cX1_detail 5 = .ok (.invokevirtual 66, 3) := by decide +kernel
theorem dX1_detail_8 : decode cX1_detail 8 = .ok (.ifCond .eq 7, 3) := by decide +kernel
theorem dX1_detail_11 : decode cX1_detail 11 = .ok (.iconst 0, 1) := by decide +kernel
theorem dX1_detail_12 : decode cX1_detail 12 = .ok (.goto 4, 3) := by decide +kernel
theorem dX1_detail_15 : decode cX1_detail 15 = .ok (.iconst 1, 1) := by decide +kernel
theorem dX1_detail_16 : decode cX1_detail 16 = .ok (.istore_n 3, 1) := by decide +kernel
theorem dX1_detail_17 : decode cX1_detail 17 = .ok (.aload_n 0, 1) := by decide +kernel
theorem dX1_detail_18 : decode cX1_detail 18 = .ok (.iload_n 3, 1) := by decide +kernel
theorem dX1_detail_19 : decode cX1_detail 19 = .ok (.invokevirtual 141, 3) := by decide +kernel
theorem dX1_detail_22 : decode cX1_detail 22 = .ok (.iload_n 1, 1) := by decide +kernel
theorem dX1_detail_23 : decode cX1_detail 23 = .ok (.invokevirtual 124, 3) := by decide +kernel
theorem dX1_detail_26 : decode cX1_detail 26 = .ok (.istore 4, 2) := by decide +kernel
theorem dX1_detail_28 : decode cX1_detail 28 = .ok (.iload 4, 2) := by decide +kernel
theorem dX1_detail_30 : decode cX1_detail 30 = .ok (.iconst (-1), 1) := by decide +kernel
theorem dX1_detail_31 : decode cX1_detail 31 = .ok (.if_icmp .ne 5, 3) := by decide +kernel
theorem dX1_detail_34 : decode cX1_detail 34 = .ok (.iconst (-1), 1) := by decide +kernel
theorem dX1_detail_35 : decode cX1_detail 35 = .ok (.ireturn, 1) := by decide +kernel
theorem dX1_detail_36 : decode cX1_detail 36 = .ok (.iload_n 2, 1) := by decide +kernel
theorem dX1_detail_37 : decode cX1_detail 37 = .ok (.tableswitch 54 0 3 #[31, 33, 36, 45], 31) := by decide +kernel
theorem dX1_detail_68 : decode cX1_detail 68 = .ok (.iload_n 3, 1) := by decide +kernel
theorem dX1_detail_69 : decode cX1_detail 69 = .ok (.ireturn, 1) := by decide +kernel
theorem dX1_detail_70 : decode cX1_detail 70 = .ok (.iload 4, 2) := by decide +kernel
theorem dX1_detail_72 : decode cX1_detail 72 = .ok (.ireturn, 1) := by decide +kernel
theorem dX1_detail_73 : decode cX1_detail 73 = .ok (.aload_n 0, 1) := by decide +kernel
theorem dX1_detail_74 : decode cX1_detail 74 = .ok (.getfield 30, 3) := by decide +kernel
theorem dX1_detail_77 : decode cX1_detail 77 = .ok (.iload_n 1, 1) := by decide +kernel
theorem dX1_detail_78 : decode cX1_detail 78 = .ok (.invokevirtual 81, 3) := by decide +kernel
theorem dX1_detail_81 : decode cX1_detail 81 = .ok (.ireturn, 1) := by decide +kernel
theorem dX1_detail_82 : decode cX1_detail 82 = .ok (.aload_n 0, 1) := by decide +kernel
theorem dX1_detail_83 : decode cX1_detail 83 = .ok (.getfield 34, 3) := by decide +kernel
theorem dX1_detail_86 : decode cX1_detail 86 = .ok (.iload_n 1, 1) := by decide +kernel
theorem dX1_detail_87 : decode cX1_detail 87 = .ok (.invokevirtual 81, 3) := by decide +kernel
theorem dX1_detail_90 : decode cX1_detail 90 = .ok (.ireturn, 1) := by decide +kernel
theorem dX1_detail_91 : decode cX1_detail 91 = .ok (.aload_n 0, 1) := by decide +kernel
theorem dX1_detail_92 : decode cX1_detail 92 = .ok (.getfield 37, 3) := by decide +kernel
theorem dX1_detail_95 : decode cX1_detail 95 = .ok (.iload_n 1, 1) := by decide +kernel
theorem dX1_detail_96 : decode cX1_detail 96 = .ok (.invokevirtual 81, 3) := by decide +kernel
theorem dX1_detail_99 : decode cX1_detail 99 = .ok (.ireturn, 1) := by decide +kernel
theorem dX1_tally_0 : decode cX1_tally 0 = .ok (.iload_n 1, 1) := by decide +kernel
theorem dX1_tally_1 : decode cX1_tally 1 = .ok (.tableswitch 117 0 9 #[55, 60, 68, 76, 84, 92, 97, 102, 107, 112], 55) := by decide +kernel
theorem dX1_tally_56 : decode cX1_tally 56 = .ok (.aload_n 0, 1) := by decide +kernel
theorem dX1_tally_57 : decode cX1_tally 57 = .ok (.getfield 40, 3) := by decide +kernel
theorem dX1_tally_60 : decode cX1_tally 60 = .ok (.ireturn, 1) := by decide +kernel
theorem dX1_tally_61 : decode cX1_tally 61 = .ok (.aload_n 0, 1) := by decide +kernel
theorem dX1_tally_62 : decode cX1_tally 62 = .ok (.getfield 12, 3) := by decide +kernel
theorem dX1_tally_65 : decode cX1_tally 65 = .ok (.getfield 70, 3) := by decide +kernel
theorem dX1_tally_68 : decode cX1_tally 68 = .ok (.ireturn, 1) := by decide +kernel
theorem dX1_tally_69 : decode cX1_tally 69 = .ok (.aload_n 0, 1) := by decide +kernel
theorem dX1_tally_70 : decode cX1_tally 70 = .ok (.getfield 18, 3) := by decide +kernel
theorem dX1_tally_73 : decode cX1_tally 73 = .ok (.getfield 70, 3) := by decide +kernel
theorem dX1_tally_76 : decode cX1_tally 76 = .ok (.ireturn, 1) := by decide +kernel
theorem dX1_tally_77 : decode cX1_tally 77 = .ok (.aload_n 0, 1) := by decide +kernel
theorem dX1_tally_78 : decode cX1_tally 78 = .ok (.getfield 21, 3) := by decide +kernel
theorem dX1_tally_81 : decode cX1_tally 81 = .ok (.getfield 70, 3) := by decide +kernel
theorem dX1_tally_84 : decode cX1_tally 84 = .ok (.ireturn, 1) := by decide +kernel
theorem dX1_tally_85 : decode cX1_tally 85 = .ok (.aload_n 0, 1) := by decide +kernel
theorem dX1_tally_86 : decode cX1_tally 86 = .ok (.getfield 24, 3) := by decide +kernel
theorem dX1_tally_89 : decode cX1_tally 89 = .ok (.getfield 70, 3) := by decide +kernel
theorem dX1_tally_92 : decode cX1_tally 92 = .ok (.ireturn, 1) := by decide +kernel
theorem dX1_tally_93 : decode cX1_tally 93 = .ok (.aload_n 0, 1) := by decide +kernel
theorem dX1_tally_94 : decode cX1_tally 94 = .ok (.getfield 51, 3) := by decide +kernel
theorem dX1_tally_97 : decode cX1_tally 97 = .ok (.ireturn, 1) := by decide +kernel
theorem dX1_tally_98 : decode cX1_tally 98 = .ok (.aload_n 0, 1) := by decide +kernel
theorem dX1_tally_99 : decode cX1_tally 99 = .ok (.getfield 54, 3) := by decide +kernel
theorem dX1_tally_102 : decode cX1_tally 102 = .ok (.ireturn, 1) := by decide +kernel
theorem dX1_tally_103 : decode cX1_tally 103 = .ok (.aload_n 0, 1) := by decide +kernel
theorem dX1_tally_104 : decode cX1_tally 104 = .ok (.getfield 57, 3) := by decide +kernel
theorem dX1_tally_107 : decode cX1_tally 107 = .ok (.ireturn, 1) := by decide +kernel
theorem dX1_tally_108 : decode cX1_tally 108 = .ok (.aload_n 0, 1) := by decide +kernel
theorem dX1_tally_109 : decode cX1_tally 109 = .ok (.getfield 60, 3) := by decide +kernel
theorem dX1_tally_112 : decode cX1_tally 112 = .ok (.ireturn, 1) := by decide +kernel
theorem dX1_tally_113 : decode cX1_tally 113 = .ok (.aload_n 0, 1) := by decide +kernel
theorem dX1_tally_114 : decode cX1_tally 114 = .ok (.getfield 63, 3) := by decide +kernel
theorem dX1_tally_117 : decode cX1_tally 117 = .ok (.ireturn, 1) := by decide +kernel
theorem dX1_tally_118 : decode cX1_tally 118 = .ok (.aload_n 0, 1) := by decide +kernel
theorem dX1_tally_119 : decode cX1_tally 119 = .ok (.invokevirtual 91, 3) := by decide +kernel
theorem dX1_tally_122 : decode cX1_tally 122 = .ok (.ireturn, 1) := by decide +kernel
theorem dX1_fetchesOfAll_0 : decode cX1_fetchesOfAll 0 = .ok (.iconst 0, 1) := by decide +kernel
theorem dX1_fetchesOfAll_1 : decode cX1_fetchesOfAll 1 = .ok (.istore_n 1, 1) := by decide +kernel
theorem dX1_fetchesOfAll_2 : decode cX1_fetchesOfAll 2 = .ok (.iconst 0, 1) := by decide +kernel
theorem dX1_fetchesOfAll_3 : decode cX1_fetchesOfAll 3 = .ok (.istore_n 2, 1) := by decide +kernel
theorem dX1_fetchesOfAll_4 : decode cX1_fetchesOfAll 4 = .ok (.iload_n 2, 1) := by decide +kernel
theorem dX1_fetchesOfAll_5 : decode cX1_fetchesOfAll 5 = .ok (.bipush 40, 2) := by decide +kernel
theorem dX1_fetchesOfAll_7 : decode cX1_fetchesOfAll 7 = .ok (.if_icmp .ge 28, 3) := by decide +kernel
theorem dX1_fetchesOfAll_10 : decode cX1_fetchesOfAll 10 = .ok (.aload_n 0, 1) := by decide +kernel
theorem dX1_fetchesOfAll_11 : decode cX1_fetchesOfAll 11 = .ok (.iload_n 2, 1) := by decide +kernel
theorem dX1_fetchesOfAll_12 : decode cX1_fetchesOfAll 12 = .ok (.invokevirtual 84, 3) := by decide +kernel
theorem dX1_fetchesOfAll_15 : decode cX1_fetchesOfAll 15 = .ok (.ifCond .eq 14, 3) := by decide +kernel
theorem dX1_fetchesOfAll_18 : decode cX1_fetchesOfAll 18 = .ok (.iload_n 1, 1) := by decide +kernel
theorem dX1_fetchesOfAll_19 : decode cX1_fetchesOfAll 19 = .ok (.aload_n 0, 1) := by decide +kernel
theorem dX1_fetchesOfAll_20 : decode cX1_fetchesOfAll 20 = .ok (.getfield 37, 3) := by decide +kernel
theorem dX1_fetchesOfAll_23 : decode cX1_fetchesOfAll 23 = .ok (.iload_n 2, 1) := by decide +kernel
theorem dX1_fetchesOfAll_24 : decode cX1_fetchesOfAll 24 = .ok (.invokevirtual 81, 3) := by decide +kernel
theorem dX1_fetchesOfAll_27 : decode cX1_fetchesOfAll 27 = .ok (.iadd, 1) := by decide +kernel
theorem dX1_fetchesOfAll_28 : decode cX1_fetchesOfAll 28 = .ok (.istore_n 1, 1) := by decide +kernel
theorem dX1_fetchesOfAll_29 : decode cX1_fetchesOfAll 29 = .ok (.iinc 2 1, 3) := by decide +kernel
theorem dX1_fetchesOfAll_32 : decode cX1_fetchesOfAll 32 = .ok (.goto (-28), 3) := by decide +kernel
theorem dX1_fetchesOfAll_35 : decode cX1_fetchesOfAll 35 = .ok (.iload_n 1, 1) := by decide +kernel
theorem dX1_fetchesOfAll_36 : decode cX1_fetchesOfAll 36 = .ok (.ireturn, 1) := by decide +kernel
theorem dX1_digestJars_0 : decode cX1_digestJars 0 = .ok (.lload_n 1, 1) := by decide +kernel
theorem dX1_digestJars_1 : decode cX1_digestJars 1 = .ok (.lstore 4, 2) := by decide +kernel
theorem dX1_digestJars_3 : decode cX1_digestJars 3 = .ok (.iconst 0, 1) := by decide +kernel
theorem dX1_digestJars_4 : decode cX1_digestJars 4 = .ok (.istore 6, 2) := by decide +kernel
theorem dX1_digestJars_6 : decode cX1_digestJars 6 = .ok (.iload 6, 2) := by decide +kernel
theorem dX1_digestJars_8 : decode cX1_digestJars 8 = .ok (.aload_n 3, 1) := by decide +kernel
theorem dX1_digestJars_9 : decode cX1_digestJars 9 = .ok (.getfield 70, 3) := by decide +kernel
theorem dX1_digestJars_12 : decode cX1_digestJars 12 = .ok (.if_icmp .ge 86, 3) := by decide +kernel
theorem dX1_digestJars_15 : decode cX1_digestJars 15 = .ok (.aload_n 3, 1) := by decide +kernel
theorem dX1_digestJars_16 : decode cX1_digestJars 16 = .ok (.iload 6, 2) := by decide +kernel
theorem dX1_digestJars_18 : decode cX1_digestJars 18 = .ok (.invokevirtual 77, 3) := by decide +kernel
theorem dX1_digestJars_21 : decode cX1_digestJars 21 = .ok (.istore 7, 2) := by decide +kernel
theorem dX1_digestJars_23 : decode cX1_digestJars 23 = .ok (.lload 4, 2) := by decide +kernel
theorem dX1_digestJars_25 : decode cX1_digestJars 25 = .ok (.ldc2_w 151, 3) := by decide +kernel
theorem dX1_digestJars_28 : decode cX1_digestJars 28 = .ok (.lmul, 1) := by decide +kernel
theorem dX1_digestJars_29 : decode cX1_digestJars 29 = .ok (.iload 7, 2) := by decide +kernel
theorem dX1_digestJars_31 : decode cX1_digestJars 31 = .ok (.i2l, 1) := by decide +kernel
theorem dX1_digestJars_32 : decode cX1_digestJars 32 = .ok (.ladd, 1) := by decide +kernel
theorem dX1_digestJars_33 : decode cX1_digestJars 33 = .ok (.lstore 4, 2) := by decide +kernel
theorem dX1_digestJars_35 : decode cX1_digestJars 35 = .ok (.lload 4, 2) := by decide +kernel
theorem dX1_digestJars_37 : decode cX1_digestJars 37 = .ok (.ldc2_w 151, 3) := by decide +kernel
theorem dX1_digestJars_40 : decode cX1_digestJars 40 = .ok (.lmul, 1) := by decide +kernel
theorem dX1_digestJars_41 : decode cX1_digestJars 41 = .ok (.aload_n 0, 1) := by decide +kernel
theorem dX1_digestJars_42 : decode cX1_digestJars 42 = .ok (.getfield 30, 3) := by decide +kernel
theorem dX1_digestJars_45 : decode cX1_digestJars 45 = .ok (.iload 7, 2) := by decide +kernel
theorem dX1_digestJars_47 : decode cX1_digestJars 47 = .ok (.invokevirtual 81, 3) := by decide +kernel
theorem dX1_digestJars_50 : decode cX1_digestJars 50 = .ok (.i2l, 1) := by decide +kernel
theorem dX1_digestJars_51 : decode cX1_digestJars 51 = .ok (.ladd, 1) := by decide +kernel
theorem dX1_digestJars_52 : decode cX1_digestJars 52 = .ok (.lstore 4, 2) := by decide +kernel
theorem dX1_digestJars_54 : decode cX1_digestJars 54 = .ok (.lload 4, 2) := by decide +kernel
theorem dX1_digestJars_56 : decode cX1_digestJars 56 = .ok (.ldc2_w 151, 3) := by decide +kernel
theorem dX1_digestJars_59 : decode cX1_digestJars 59 = .ok (.lmul, 1) := by decide +kernel
theorem dX1_digestJars_60 : decode cX1_digestJars 60 = .ok (.aload_n 0, 1) := by decide +kernel
theorem dX1_digestJars_61 : decode cX1_digestJars 61 = .ok (.getfield 34, 3) := by decide +kernel
theorem dX1_digestJars_64 : decode cX1_digestJars 64 = .ok (.iload 7, 2) := by decide +kernel
theorem dX1_digestJars_66 : decode cX1_digestJars 66 = .ok (.invokevirtual 81, 3) := by decide +kernel
theorem dX1_digestJars_69 : decode cX1_digestJars 69 = .ok (.i2l, 1) := by decide +kernel
theorem dX1_digestJars_70 : decode cX1_digestJars 70 = .ok (.ladd, 1) := by decide +kernel
theorem dX1_digestJars_71 : decode cX1_digestJars 71 = .ok (.lstore 4, 2) := by decide +kernel
theorem dX1_digestJars_73 : decode cX1_digestJars 73 = .ok (.lload 4, 2) := by decide +kernel
theorem dX1_digestJars_75 : decode cX1_digestJars 75 = .ok (.ldc2_w 151, 3) := by decide +kernel
theorem dX1_digestJars_78 : decode cX1_digestJars 78 = .ok (.lmul, 1) := by decide +kernel
theorem dX1_digestJars_79 : decode cX1_digestJars 79 = .ok (.aload_n 0, 1) := by decide +kernel
theorem dX1_digestJars_80 : decode cX1_digestJars 80 = .ok (.getfield 37, 3) := by decide +kernel
theorem dX1_digestJars_83 : decode cX1_digestJars 83 = .ok (.iload 7, 2) := by decide +kernel
theorem dX1_digestJars_85 : decode cX1_digestJars 85 = .ok (.invokevirtual 81, 3) := by decide +kernel
theorem dX1_digestJars_88 : decode cX1_digestJars 88 = .ok (.i2l, 1) := by decide +kernel
theorem dX1_digestJars_89 : decode cX1_digestJars 89 = .ok (.ladd, 1) := by decide +kernel
theorem dX1_digestJars_90 : decode cX1_digestJars 90 = .ok (.lstore 4, 2) := by decide +kernel
theorem dX1_digestJars_92 : decode cX1_digestJars 92 = .ok (.iinc 6 1, 3) := by decide +kernel
theorem dX1_digestJars_95 : decode cX1_digestJars 95 = .ok (.goto (-89), 3) := by decide +kernel
theorem dX1_digestJars_98 : decode cX1_digestJars 98 = .ok (.lload 4, 2) := by decide +kernel
theorem dX1_digestJars_100 : decode cX1_digestJars 100 = .ok (.lreturn, 1) := by decide +kernel
theorem dX2_init_0 : decode cX2_init 0 = .ok (.aload_n 0, 1) := by decide +kernel
theorem dX2_init_1 : decode cX2_init 1 = .ok (.invokespecial 3, 3) := by decide +kernel
theorem dX2_init_4 : decode cX2_init 4 = .ok (.aload_n 0, 1) := by decide +kernel
theorem dX2_init_5 : decode cX2_init 5 = .ok (.bipush 40, 2) := by decide +kernel
theorem dX2_init_7 : decode cX2_init 7 = .ok (.newarray .int, 2) := by decide +kernel
theorem dX2_init_9 : decode cX2_init 9 = .ok (.putfield 9, 3) := by decide +kernel
theorem dX2_init_12 : decode cX2_init 12 = .ok (.return_, 1) := by decide +kernel
theorem dX2_become_0 : decode cX2_become 0 = .ok (.iconst 0, 1) := by decide +kernel
theorem dX2_become_1 : decode cX2_become 1 = .ok (.istore_n 2, 1) := by decide +kernel
theorem dX2_become_2 : decode cX2_become 2 = .ok (.iload_n 2, 1) := by decide +kernel
theorem dX2_become_3 : decode cX2_become 3 = .ok (.aload_n 0, 1) := by decide +kernel
theorem dX2_become_4 : decode cX2_become 4 = .ok (.getfield 9, 3) := by decide +kernel
theorem dX2_become_7 : decode cX2_become 7 = .ok (.arraylength, 1) := by decide +kernel
theorem dX2_become_8 : decode cX2_become 8 = .ok (.if_icmp .ge 30, 3) := by decide +kernel
theorem dX2_become_11 : decode cX2_become 11 = .ok (.iload_n 2, 1) := by decide +kernel
theorem dX2_become_12 : decode cX2_become 12 = .ok (.aload_n 1, 1) := by decide +kernel
theorem dX2_become_13 : decode cX2_become 13 = .ok (.getfield 9, 3) := by decide +kernel
theorem dX2_become_16 : decode cX2_become 16 = .ok (.arraylength, 1) := by decide +kernel
theorem dX2_become_17 : decode cX2_become 17 = .ok (.if_icmp .ge 21, 3) := by decide +kernel
theorem dX2_become_20 : decode cX2_become 20 = .ok (.aload_n 0, 1) := by decide +kernel
theorem dX2_become_21 : decode cX2_become 21 = .ok (.getfield 9, 3) := by decide +kernel
theorem dX2_become_24 : decode cX2_become 24 = .ok (.iload_n 2, 1) := by decide +kernel
theorem dX2_become_25 : decode cX2_become 25 = .ok (.aload_n 1, 1) := by decide +kernel
theorem dX2_become_26 : decode cX2_become 26 = .ok (.getfield 9, 3) := by decide +kernel
theorem dX2_become_29 : decode cX2_become 29 = .ok (.iload_n 2, 1) := by decide +kernel
theorem dX2_become_30 : decode cX2_become 30 = .ok (.iaload, 1) := by decide +kernel
theorem dX2_become_31 : decode cX2_become 31 = .ok (.iastore, 1) := by decide +kernel
theorem dX2_become_32 : decode cX2_become 32 = .ok (.iinc 2 1, 3) := by decide +kernel
theorem dX2_become_35 : decode cX2_become 35 = .ok (.goto (-33), 3) := by decide +kernel
theorem dX2_become_38 : decode cX2_become 38 = .ok (.return_, 1) := by decide +kernel
theorem dX2_of_0 : decode cX2_of 0 = .ok (.iload_n 1, 1) := by decide +kernel
theorem dX2_of_1 : decode cX2_of 1 = .ok (.ifCond .lt 21, 3) := by decide +kernel
theorem dX2_of_4 : decode cX2_of 4 = .ok (.iload_n 1, 1) := by decide +kernel
theorem dX2_of_5 : decode cX2_of 5 = .ok (.aload_n 0, 1) := by decide +kernel
theorem dX2_of_6 : decode cX2_of 6 = .ok (.getfield 9, 3) := by decide +kernel
theorem dX2_of_9 : decode cX2_of 9 = .ok (.arraylength, 1) := by decide +kernel
theorem dX2_of_10 : decode cX2_of 10 = .ok (.if_icmp .ge 12, 3) := by decide +kernel
theorem dX2_of_13 : decode cX2_of 13 = .ok (.aload_n 0, 1) := by decide +kernel
theorem dX2_of_14 : decode cX2_of 14 = .ok (.getfield 9, 3) := by decide +kernel
theorem dX2_of_17 : decode cX2_of 17 = .ok (.iload_n 1, 1) := by decide +kernel
theorem dX2_of_18 : decode cX2_of 18 = .ok (.iaload, 1) := by decide +kernel
theorem dX2_of_19 : decode cX2_of 19 = .ok (.goto 4, 3) := by decide +kernel
theorem dX2_of_22 : decode cX2_of 22 = .ok (.iconst 0, 1) := by decide +kernel
theorem dX2_of_23 : decode cX2_of 23 = .ok (.ireturn, 1) := by decide +kernel
theorem dX2_put_0 : decode cX2_put 0 = .ok (.iload_n 1, 1) := by decide +kernel
theorem dX2_put_1 : decode cX2_put 1 = .ok (.ifCond .lt 19, 3) := by decide +kernel
theorem dX2_put_4 : decode cX2_put 4 = .ok (.iload_n 1, 1) := by decide +kernel
theorem dX2_put_5 : decode cX2_put 5 = .ok (.aload_n 0, 1) := by decide +kernel
theorem dX2_put_6 : decode cX2_put 6 = .ok (.getfield 9, 3) := by decide +kernel
theorem dX2_put_9 : decode cX2_put 9 = .ok (.arraylength, 1) := by decide +kernel
theorem dX2_put_10 : decode cX2_put 10 = .ok (.if_icmp .ge 10, 3) := by decide +kernel
theorem dX2_put_13 : decode cX2_put 13 = .ok (.aload_n 0, 1) := by decide +kernel
theorem dX2_put_14 : decode cX2_put 14 = .ok (.getfield 9, 3) := by decide +kernel
theorem dX2_put_17 : decode cX2_put 17 = .ok (.iload_n 1, 1) := by decide +kernel
theorem dX2_put_18 : decode cX2_put 18 = .ok (.iload_n 2, 1) := by decide +kernel
theorem dX2_put_19 : decode cX2_put 19 = .ok (.iastore, 1) := by decide +kernel
theorem dX2_put_20 : decode cX2_put 20 = .ok (.return_, 1) := by decide +kernel
theorem dX3_init_0 : decode cX3_init 0 = .ok (.aload_n 0, 1) := by decide +kernel
theorem dX3_init_1 : decode cX3_init 1 = .ok (.invokespecial 1, 3) := by decide +kernel
theorem dX3_init_4 : decode cX3_init 4 = .ok (.aload_n 0, 1) := by decide +kernel
theorem dX3_init_5 : decode cX3_init 5 = .ok (.new 7, 3) := by decide +kernel
theorem dX3_init_8 : decode cX3_init 8 = .ok (.dup, 1) := by decide +kernel
theorem dX3_init_9 : decode cX3_init 9 = .ok (.invokespecial 9, 3) := by decide +kernel
theorem dX3_init_12 : decode cX3_init 12 = .ok (.putfield 10, 3) := by decide +kernel
theorem dX3_init_15 : decode cX3_init 15 = .ok (.aload_n 0, 1) := by decide +kernel
theorem dX3_init_16 : decode cX3_init 16 = .ok (.new 7, 3) := by decide +kernel
theorem dX3_init_19 : decode cX3_init 19 = .ok (.dup, 1) := by decide +kernel
theorem dX3_init_20 : decode cX3_init 20 = .ok (.invokespecial 9, 3) := by decide +kernel
theorem dX3_init_23 : decode cX3_init 23 = .ok (.putfield 16, 3) := by decide +kernel
theorem dX3_init_26 : decode cX3_init 26 = .ok (.return_, 1) := by decide +kernel
theorem dX3_fetch_0 : decode cX3_fetch 0 = .ok (.iload_n 1, 1) := by decide +kernel
theorem dX3_fetch_1 : decode cX3_fetch 1 = .ok (.invokestatic 19, 3) := by decide +kernel
theorem dX3_fetch_4 : decode cX3_fetch 4 = .ok (.aload_n 0, 1) := by decide +kernel
theorem dX3_fetch_5 : decode cX3_fetch 5 = .ok (.getfield 10, 3) := by decide +kernel
theorem dX3_fetch_8 : decode cX3_fetch 8 = .ok (.iload_n 1, 1) := by decide +kernel
theorem dX3_fetch_9 : decode cX3_fetch 9 = .ok (.invokevirtual 23, 3) := by decide +kernel
theorem dX3_fetch_12 : decode cX3_fetch 12 = .ok (.istore_n 2, 1) := by decide +kernel
theorem dX3_fetch_13 : decode cX3_fetch 13 = .ok (.iload_n 2, 1) := by decide +kernel
theorem dX3_fetch_14 : decode cX3_fetch 14 = .ok (.bipush (-9), 2) := by decide +kernel
theorem dX3_fetch_16 : decode cX3_fetch 16 = .ok (.if_icmp .ne 13, 3) := by decide +kernel
theorem dX3_fetch_19 : decode cX3_fetch 19 = .ok (.new 27, 3) := by decide +kernel
theorem dX3_fetch_22 : decode cX3_fetch 22 = .ok (.dup, 1) := by decide +kernel
theorem dX3_fetch_23 : decode cX3_fetch 23 = .ok (.ldc 29, 2) := by decide +kernel
theorem dX3_fetch_25 : decode cX3_fetch 25 = .ok (.invokespecial 31, 3) := by decide +kernel
theorem dX3_fetch_28 : decode cX3_fetch 28 = .ok (.athrow, 1) := by decide +kernel
theorem dX3_fetch_29 : decode cX3_fetch 29 = .ok (.iload_n 2, 1) := by decide +kernel
theorem dX3_fetch_30 : decode cX3_fetch 30 = .ok (.ireturn, 1) := by decide +kernel
theorem dX3_fetchAll_0 : decode cX3_fetchAll 0 = .ok (.iload_n 1, 1) := by decide +kernel
theorem dX3_fetchAll_1 : decode cX3_fetchAll 1 = .ok (.iload_n 2, 1) := by decide +kernel
theorem dX3_fetchAll_2 : decode cX3_fetchAll 2 = .ok (.iload_n 3, 1) := by decide +kernel
theorem dX3_fetchAll_3 : decode cX3_fetchAll 3 = .ok (.invokestatic 34, 3) := by decide +kernel
theorem dX3_fetchAll_6 : decode cX3_fetchAll 6 = .ok (.aload_n 0, 1) := by decide +kernel
theorem dX3_fetchAll_7 : decode cX3_fetchAll 7 = .ok (.getfield 10, 3) := by decide +kernel
theorem dX3_fetchAll_10 : decode cX3_fetchAll 10 = .ok (.iload_n 1, 1) := by decide +kernel
theorem dX3_fetchAll_11 : decode cX3_fetchAll 11 = .ok (.iload_n 2, 1) := by decide +kernel
theorem dX3_fetchAll_12 : decode cX3_fetchAll 12 = .ok (.iload_n 3, 1) := by decide +kernel
theorem dX3_fetchAll_13 : decode cX3_fetchAll 13 = .ok (.invokevirtual 38, 3) := by decide +kernel
theorem dX3_fetchAll_16 : decode cX3_fetchAll 16 = .ok (.ireturn, 1) := by decide +kernel
theorem dX3_pin_0 : decode cX3_pin 0 = .ok (.iload_n 1, 1) := by decide +kernel
theorem dX3_pin_1 : decode cX3_pin 1 = .ok (.invokestatic 19, 3) := by decide +kernel
theorem dX3_pin_4 : decode cX3_pin 4 = .ok (.aload_n 0, 1) := by decide +kernel
theorem dX3_pin_5 : decode cX3_pin 5 = .ok (.iload_n 1, 1) := by decide +kernel
theorem dX3_pin_6 : decode cX3_pin 6 = .ok (.invokevirtual 42, 3) := by decide +kernel
theorem dX3_pin_9 : decode cX3_pin 9 = .ok (.aload_n 0, 1) := by decide +kernel
theorem dX3_pin_10 : decode cX3_pin 10 = .ok (.getfield 10, 3) := by decide +kernel
theorem dX3_pin_13 : decode cX3_pin 13 = .ok (.getfield 45, 3) := by decide +kernel
theorem dX3_pin_16 : decode cX3_pin 16 = .ok (.iload_n 1, 1) := by decide +kernel
theorem dX3_pin_17 : decode cX3_pin 17 = .ok (.invokevirtual 49, 3) := by decide +kernel
theorem dX3_pin_20 : decode cX3_pin 20 = .ok (.bipush 9, 2) := by decide +kernel
theorem dX3_pin_22 : decode cX3_pin 22 = .ok (.if_icmp .lt 13, 3) := by decide +kernel
theorem dX3_pin_25 : decode cX3_pin 25 = .ok (.new 27, 3) := by decide +kernel
theorem dX3_pin_28 : decode cX3_pin 28 = .ok (.dup, 1) := by decide +kernel
theorem dX3_pin_29 : decode cX3_pin 29 = .ok (.ldc 54, 2) := by decide +kernel
theorem dX3_pin_31 : decode cX3_pin 31 = .ok (.invokespecial 31, 3) := by decide +kernel
theorem dX3_pin_34 : decode cX3_pin 34 = .ok (.athrow, 1) := by decide +kernel
theorem dX3_pin_35 : decode cX3_pin 35 = .ok (.aload_n 0, 1) := by decide +kernel
theorem dX3_pin_36 : decode cX3_pin 36 = .ok (.getfield 10, 3) := by decide +kernel
theorem dX3_pin_39 : decode cX3_pin 39 = .ok (.iload_n 1, 1) := by decide +kernel
theorem dX3_pin_40 : decode cX3_pin 40 = .ok (.iconst 1, 1) := by decide +kernel
theorem dX3_pin_41 : decode cX3_pin 41 = .ok (.invokevirtual 56, 3) := by decide +kernel
theorem dX3_pin_44 : decode cX3_pin 44 = .ok (.ireturn, 1) := by decide +kernel
theorem dX3_unpin_0 : decode cX3_unpin 0 = .ok (.iload_n 1, 1) := by decide +kernel
theorem dX3_unpin_1 : decode cX3_unpin 1 = .ok (.invokestatic 19, 3) := by decide +kernel
theorem dX3_unpin_4 : decode cX3_unpin 4 = .ok (.aload_n 0, 1) := by decide +kernel
theorem dX3_unpin_5 : decode cX3_unpin 5 = .ok (.iload_n 1, 1) := by decide +kernel
theorem dX3_unpin_6 : decode cX3_unpin 6 = .ok (.invokevirtual 42, 3) := by decide +kernel
theorem dX3_unpin_9 : decode cX3_unpin 9 = .ok (.aload_n 0, 1) := by decide +kernel
theorem dX3_unpin_10 : decode cX3_unpin 10 = .ok (.getfield 10, 3) := by decide +kernel
theorem dX3_unpin_13 : decode cX3_unpin 13 = .ok (.getfield 45, 3) := by decide +kernel
theorem dX3_unpin_16 : decode cX3_unpin 16 = .ok (.iload_n 1, 1) := by decide +kernel
theorem dX3_unpin_17 : decode cX3_unpin 17 = .ok (.invokevirtual 49, 3) := by decide +kernel
theorem dX3_unpin_20 : decode cX3_unpin 20 = .ok (.iconst 1, 1) := by decide +kernel
theorem dX3_unpin_21 : decode cX3_unpin 21 = .ok (.if_icmp .ge 13, 3) := by decide +kernel
theorem dX3_unpin_24 : decode cX3_unpin 24 = .ok (.new 27, 3) := by decide +kernel
theorem dX3_unpin_27 : decode cX3_unpin 27 = .ok (.dup, 1) := by decide +kernel
theorem dX3_unpin_28 : decode cX3_unpin 28 = .ok (.ldc 60, 2) := by decide +kernel
theorem dX3_unpin_30 : decode cX3_unpin 30 = .ok (.invokespecial 31, 3) := by decide +kernel
theorem dX3_unpin_33 : decode cX3_unpin 33 = .ok (.athrow, 1) := by decide +kernel
theorem dX3_unpin_34 : decode cX3_unpin 34 = .ok (.aload_n 0, 1) := by decide +kernel
theorem dX3_unpin_35 : decode cX3_unpin 35 = .ok (.getfield 10, 3) := by decide +kernel
theorem dX3_unpin_38 : decode cX3_unpin 38 = .ok (.iload_n 1, 1) := by decide +kernel
theorem dX3_unpin_39 : decode cX3_unpin 39 = .ok (.iconst (-1), 1) := by decide +kernel
theorem dX3_unpin_40 : decode cX3_unpin 40 = .ok (.invokevirtual 56, 3) := by decide +kernel
theorem dX3_unpin_43 : decode cX3_unpin 43 = .ok (.ireturn, 1) := by decide +kernel
theorem dX3_eat_0 : decode cX3_eat 0 = .ok (.iload_n 1, 1) := by decide +kernel
theorem dX3_eat_1 : decode cX3_eat 1 = .ok (.invokestatic 19, 3) := by decide +kernel
theorem dX3_eat_4 : decode cX3_eat 4 = .ok (.aload_n 0, 1) := by decide +kernel
theorem dX3_eat_5 : decode cX3_eat 5 = .ok (.iload_n 1, 1) := by decide +kernel
theorem dX3_eat_6 : decode cX3_eat 6 = .ok (.invokevirtual 42, 3) := by decide +kernel
theorem dX3_eat_9 : decode cX3_eat 9 = .ok (.aload_n 0, 1) := by decide +kernel
theorem dX3_eat_10 : decode cX3_eat 10 = .ok (.getfield 10, 3) := by decide +kernel
theorem dX3_eat_13 : decode cX3_eat 13 = .ok (.getfield 45, 3) := by decide +kernel
theorem dX3_eat_16 : decode cX3_eat 16 = .ok (.iload_n 1, 1) := by decide +kernel
theorem dX3_eat_17 : decode cX3_eat 17 = .ok (.invokevirtual 49, 3) := by decide +kernel
theorem dX3_eat_20 : decode cX3_eat 20 = .ok (.ifCond .le 13, 3) := by decide +kernel
theorem dX3_eat_23 : decode cX3_eat 23 = .ok (.new 27, 3) := by decide +kernel
theorem dX3_eat_26 : decode cX3_eat 26 = .ok (.dup, 1) := by decide +kernel
theorem dX3_eat_27 : decode cX3_eat 27 = .ok (.ldc 62, 2) := by decide +kernel
theorem dX3_eat_29 : decode cX3_eat 29 = .ok (.invokespecial 31, 3) := by decide +kernel
theorem dX3_eat_32 : decode cX3_eat 32 = .ok (.athrow, 1) := by decide +kernel
theorem dX3_eat_33 : decode cX3_eat 33 = .ok (.aload_n 0, 1) := by decide +kernel
theorem dX3_eat_34 : decode cX3_eat 34 = .ok (.getfield 10, 3) := by decide +kernel
theorem dX3_eat_37 : decode cX3_eat 37 = .ok (.iload_n 1, 1) := by decide +kernel
theorem dX3_eat_38 : decode cX3_eat 38 = .ok (.invokevirtual 64, 3) := by decide +kernel
theorem dX3_eat_41 : decode cX3_eat 41 = .ok (.ireturn, 1) := by decide +kernel
theorem dX3_setPlaces_0 : decode cX3_setPlaces 0 = .ok (.iload_n 1, 1) := by decide +kernel
theorem dX3_setPlaces_1 : decode cX3_setPlaces 1 = .ok (.iconst 2, 1) := by decide +kernel
theorem dX3_setPlaces_2 : decode cX3_setPlaces 2 = .ok (.if_icmp .lt 9, 3) := by decide +kernel
theorem dX3_setPlaces_5 : decode cX3_setPlaces 5 = .ok (.iload_n 1, 1) := by decide +kernel
theorem dX3_setPlaces_6 : decode cX3_setPlaces 6 = .ok (.bipush 12, 2) := by decide +kernel
theorem dX3_setPlaces_8 : decode cX3_setPlaces 8 = .ok (.if_icmp .le 13, 3) := by decide +kernel
theorem dX3_setPlaces_11 : decode cX3_setPlaces 11 = .ok (.new 67, 3) := by decide +kernel
theorem dX3_setPlaces_14 : decode cX3_setPlaces 14 = .ok (.dup, 1) := by decide +kernel
theorem dX3_setPlaces_15 : decode cX3_setPlaces 15 = .ok (.ldc 69, 2) := by decide +kernel
theorem dX3_setPlaces_17 : decode cX3_setPlaces 17 = .ok (.invokespecial 71, 3) := by decide +kernel
theorem dX3_setPlaces_20 : decode cX3_setPlaces 20 = .ok (.athrow, 1) := by decide +kernel
theorem dX3_setPlaces_21 : decode cX3_setPlaces 21 = .ok (.aload_n 0, 1) := by decide +kernel
theorem dX3_setPlaces_22 : decode cX3_setPlaces 22 = .ok (.getfield 10, 3) := by decide +kernel
theorem dX3_setPlaces_25 : decode cX3_setPlaces 25 = .ok (.invokevirtual 72, 3) := by decide +kernel
theorem dX3_setPlaces_28 : decode cX3_setPlaces 28 = .ok (.iload_n 1, 1) := by decide +kernel
theorem dX3_setPlaces_29 : decode cX3_setPlaces 29 = .ok (.if_icmp .le 13, 3) := by decide +kernel
theorem dX3_setPlaces_32 : decode cX3_setPlaces 32 = .ok (.new 27, 3) := by decide +kernel
theorem dX3_setPlaces_35 : decode cX3_setPlaces 35 = .ok (.dup, 1) := by decide +kernel
theorem dX3_setPlaces_36 : decode cX3_setPlaces 36 = .ok (.ldc 76, 2) := by decide +kernel
theorem dX3_setPlaces_38 : decode cX3_setPlaces 38 = .ok (.invokespecial 31, 3) := by decide +kernel
theorem dX3_setPlaces_41 : decode cX3_setPlaces 41 = .ok (.athrow, 1) := by decide +kernel
theorem dX3_setPlaces_42 : decode cX3_setPlaces 42 = .ok (.aload_n 0, 1) := by decide +kernel
theorem dX3_setPlaces_43 : decode cX3_setPlaces 43 = .ok (.getfield 10, 3) := by decide +kernel
theorem dX3_setPlaces_46 : decode cX3_setPlaces 46 = .ok (.getfield 78, 3) := by decide +kernel
theorem dX3_setPlaces_49 : decode cX3_setPlaces 49 = .ok (.istore_n 2, 1) := by decide +kernel
theorem dX3_setPlaces_50 : decode cX3_setPlaces 50 = .ok (.aload_n 0, 1) := by decide +kernel
theorem dX3_setPlaces_51 : decode cX3_setPlaces 51 = .ok (.getfield 10, 3) := by decide +kernel
theorem dX3_setPlaces_54 : decode cX3_setPlaces 54 = .ok (.iload_n 1, 1) := by decide +kernel
theorem dX3_setPlaces_55 : decode cX3_setPlaces 55 = .ok (.invokevirtual 82, 3) := by decide +kernel
theorem dX3_setPlaces_58 : decode cX3_setPlaces 58 = .ok (.iload_n 2, 1) := by decide +kernel
theorem dX3_setPlaces_59 : decode cX3_setPlaces 59 = .ok (.ireturn, 1) := by decide +kernel
theorem dX3_setGoal_0 : decode cX3_setGoal 0 = .ok (.iload_n 1, 1) := by decide +kernel
theorem dX3_setGoal_1 : decode cX3_setGoal 1 = .ok (.ifCond .lt 14, 3) := by decide +kernel
theorem dX3_setGoal_4 : decode cX3_setGoal 4 = .ok (.iload_n 1, 1) := by decide +kernel
theorem dX3_setGoal_5 : decode cX3_setGoal 5 = .ok (.aload_n 0, 1) := by decide +kernel
theorem dX3_setGoal_6 : decode cX3_setGoal 6 = .ok (.getfield 10, 3) := by decide +kernel
theorem dX3_setGoal_9 : decode cX3_setGoal 9 = .ok (.getfield 78, 3) := by decide +kernel
theorem dX3_setGoal_12 : decode cX3_setGoal 12 = .ok (.if_icmp .le 13, 3) := by decide +kernel
theorem dX3_setGoal_15 : decode cX3_setGoal 15 = .ok (.new 67, 3) := by decide +kernel
theorem dX3_setGoal_18 : decode cX3_setGoal 18 = .ok (.dup, 1) := by decide +kernel
theorem dX3_setGoal_19 : decode cX3_setGoal 19 = .ok (.ldc 85, 2) := by decide +kernel
theorem dX3_setGoal_21 : decode cX3_setGoal 21 = .ok (.invokespecial 71, 3) := by decide +kernel
theorem dX3_setGoal_24 : decode cX3_setGoal 24 = .ok (.athrow, 1) := by decide +kernel
theorem dX3_setGoal_25 : decode cX3_setGoal 25 = .ok (.aload_n 0, 1) := by decide +kernel
theorem dX3_setGoal_26 : decode cX3_setGoal 26 = .ok (.getfield 10, 3) := by decide +kernel
theorem dX3_setGoal_29 : decode cX3_setGoal 29 = .ok (.getfield 87, 3) := by decide +kernel
theorem dX3_setGoal_32 : decode cX3_setGoal 32 = .ok (.istore_n 2, 1) := by decide +kernel
theorem dX3_setGoal_33 : decode cX3_setGoal 33 = .ok (.aload_n 0, 1) := by decide +kernel
theorem dX3_setGoal_34 : decode cX3_setGoal 34 = .ok (.getfield 10, 3) := by decide +kernel
theorem dX3_setGoal_37 : decode cX3_setGoal 37 = .ok (.iload_n 1, 1) := by decide +kernel
theorem dX3_setGoal_38 : decode cX3_setGoal 38 = .ok (.putfield 87, 3) := by decide +kernel
theorem dX3_setGoal_41 : decode cX3_setGoal 41 = .ok (.iload_n 2, 1) := by decide +kernel
theorem dX3_setGoal_42 : decode cX3_setGoal 42 = .ok (.ireturn, 1) := by decide +kernel
theorem dX3_jar_0 : decode cX3_jar 0 = .ok (.iload_n 1, 1) := by decide +kernel
theorem dX3_jar_1 : decode cX3_jar 1 = .ok (.invokestatic 19, 3) := by decide +kernel
theorem dX3_jar_4 : decode cX3_jar 4 = .ok (.iload_n 2, 1) := by decide +kernel
theorem dX3_jar_5 : decode cX3_jar 5 = .ok (.ifCond .lt 8, 3) := by decide +kernel
theorem dX3_jar_8 : decode cX3_jar 8 = .ok (.iload_n 2, 1) := by decide +kernel
theorem dX3_jar_9 : decode cX3_jar 9 = .ok (.iconst 5, 1) := by decide +kernel
theorem dX3_jar_10 : decode cX3_jar 10 = .ok (.if_icmp .lt 13, 3) := by decide +kernel
theorem dX3_jar_13 : decode cX3_jar 13 = .ok (.new 90, 3) := by decide +kernel
theorem dX3_jar_16 : decode cX3_jar 16 = .ok (.dup, 1) := by decide +kernel
theorem dX3_jar_17 : decode cX3_jar 17 = .ok (.ldc 92, 2) := by decide +kernel
theorem dX3_jar_19 : decode cX3_jar 19 = .ok (.invokespecial 94, 3) := by decide +kernel
theorem dX3_jar_22 : decode cX3_jar 22 = .ok (.athrow, 1) := by decide +kernel
theorem dX3_jar_23 : decode cX3_jar 23 = .ok (.aload_n 0, 1) := by decide +kernel
theorem dX3_jar_24 : decode cX3_jar 24 = .ok (.getfield 10, 3) := by decide +kernel
theorem dX3_jar_27 : decode cX3_jar 27 = .ok (.iload_n 1, 1) := by decide +kernel
theorem dX3_jar_28 : decode cX3_jar 28 = .ok (.iload_n 2, 1) := by decide +kernel
theorem dX3_jar_29 : decode cX3_jar 29 = .ok (.invokevirtual 95, 3) := by decide +kernel
theorem dX3_jar_32 : decode cX3_jar 32 = .ok (.ireturn, 1) := by decide +kernel
theorem dX3_shelf_0 : decode cX3_shelf 0 = .ok (.iload_n 1, 1) := by decide +kernel
theorem dX3_shelf_1 : decode cX3_shelf 1 = .ok (.invokestatic 98, 3) := by decide +kernel
theorem dX3_shelf_4 : decode cX3_shelf 4 = .ok (.aload_n 0, 1) := by decide +kernel
theorem dX3_shelf_5 : decode cX3_shelf 5 = .ok (.getfield 10, 3) := by decide +kernel
theorem dX3_shelf_8 : decode cX3_shelf 8 = .ok (.iload_n 1, 1) := by decide +kernel
theorem dX3_shelf_9 : decode cX3_shelf 9 = .ok (.invokevirtual 101, 3) := by decide +kernel
theorem dX3_shelf_12 : decode cX3_shelf 12 = .ok (.iload_n 2, 1) := by decide +kernel
theorem dX3_shelf_13 : decode cX3_shelf 13 = .ok (.invokestatic 105, 3) := by decide +kernel
theorem dX3_shelf_16 : decode cX3_shelf 16 = .ok (.ireturn, 1) := by decide +kernel
theorem dX3_ghost_0 : decode cX3_ghost 0 = .ok (.iload_n 1, 1) := by decide +kernel
theorem dX3_ghost_1 : decode cX3_ghost 1 = .ok (.invokestatic 98, 3) := by decide +kernel
theorem dX3_ghost_4 : decode cX3_ghost 4 = .ok (.aload_n 0, 1) := by decide +kernel
theorem dX3_ghost_5 : decode cX3_ghost 5 = .ok (.getfield 10, 3) := by decide +kernel
theorem dX3_ghost_8 : decode cX3_ghost 8 = .ok (.iload_n 1, 1) := by decide +kernel
theorem dX3_ghost_9 : decode cX3_ghost 9 = .ok (.invokevirtual 109, 3) := by decide +kernel
theorem dX3_ghost_12 : decode cX3_ghost 12 = .ok (.iload_n 2, 1) := by decide +kernel
theorem dX3_ghost_13 : decode cX3_ghost 13 = .ok (.invokestatic 105, 3) := by decide +kernel
theorem dX3_ghost_16 : decode cX3_ghost 16 = .ok (.ireturn, 1) := by decide +kernel
theorem dX3_count_0 : decode cX3_count 0 = .ok (.iload_n 1, 1) := by decide +kernel
theorem dX3_count_1 : decode cX3_count 1 = .ok (.ifCond .lt 9, 3) := by decide +kernel
theorem dX3_count_4 : decode cX3_count 4 = .ok (.iload_n 1, 1) := by decide +kernel
theorem dX3_count_5 : decode cX3_count 5 = .ok (.bipush 11, 2) := by decide +kernel
theorem dX3_count_7 : decode cX3_count 7 = .ok (.if_icmp .lt 13, 3) := by decide +kernel
theorem dX3_count_10 : decode cX3_count 10 = .ok (.new 90, 3) := by decide +kernel
theorem dX3_count_13 : decode cX3_count 13 = .ok (.dup, 1) := by decide +kernel
theorem dX3_count_14 : decode cX3_count 14 = .ok (.ldc 112, 2) := by decide +kernel
theorem dX3_count_16 : decode cX3_count 16 = .ok (.invokespecial 94, 3) := by decide +kernel
theorem dX3_count_19 : decode cX3_count 19 = .ok (.athrow, 1) := by decide +kernel
theorem dX3_count_20 : decode cX3_count 20 = .ok (.aload_n 0, 1) := by decide +kernel
theorem dX3_count_21 : decode cX3_count 21 = .ok (.getfield 10, 3) := by decide +kernel
theorem dX3_count_24 : decode cX3_count 24 = .ok (.iload_n 1, 1) := by decide +kernel
theorem dX3_count_25 : decode cX3_count 25 = .ok (.invokevirtual 114, 3) := by decide +kernel
theorem dX3_count_28 : decode cX3_count 28 = .ok (.ireturn, 1) := by decide +kernel
theorem dX3_next_0 : decode cX3_next 0 = .ok (.aload_n 0, 1) := by decide +kernel
theorem dX3_next_1 : decode cX3_next 1 = .ok (.getfield 16, 3) := by decide +kernel
theorem dX3_next_4 : decode cX3_next 4 = .ok (.aload_n 0, 1) := by decide +kernel
theorem dX3_next_5 : decode cX3_next 5 = .ok (.getfield 10, 3) := by decide +kernel
theorem dX3_next_8 : decode cX3_next 8 = .ok (.invokevirtual 117, 3) := by decide +kernel
theorem dX3_next_11 : decode cX3_next 11 = .ok (.aload_n 0, 1) := by decide +kernel
theorem dX3_next_12 : decode cX3_next 12 = .ok (.getfield 16, 3) := by decide +kernel
theorem dX3_next_15 : decode cX3_next 15 = .ok (.invokevirtual 121, 3) := by decide +kernel
theorem dX3_next_18 : decode cX3_next 18 = .ok (.ireturn, 1) := by decide +kernel
theorem dX3_would_0 : decode cX3_would 0 = .ok (.iload_n 1, 1) := by decide +kernel
theorem dX3_would_1 : decode cX3_would 1 = .ok (.invokestatic 19, 3) := by decide +kernel
theorem dX3_would_4 : decode cX3_would 4 = .ok (.aload_n 0, 1) := by decide +kernel
theorem dX3_would_5 : decode cX3_would 5 = .ok (.getfield 10, 3) := by decide +kernel
theorem dX3_would_8 : decode cX3_would 8 = .ok (.iload_n 1, 1) := by decide +kernel
theorem dX3_would_9 : decode cX3_would 9 = .ok (.invokevirtual 124, 3) := by decide +kernel
theorem dX3_would_12 : decode cX3_would 12 = .ok (.ireturn, 1) := by decide +kernel
theorem dX3_trial_0 : decode cX3_trial 0 = .ok (.iload_n 1, 1) := by decide +kernel
theorem dX3_trial_1 : decode cX3_trial 1 = .ok (.iload_n 2, 1) := by decide +kernel
theorem dX3_trial_2 : decode cX3_trial 2 = .ok (.iload_n 3, 1) := by decide +kernel
theorem dX3_trial_3 : decode cX3_trial 3 = .ok (.invokestatic 34, 3) := by decide +kernel
theorem dX3_trial_6 : decode cX3_trial 6 = .ok (.aload_n 0, 1) := by decide +kernel
theorem dX3_trial_7 : decode cX3_trial 7 = .ok (.getfield 16, 3) := by decide +kernel
theorem dX3_trial_10 : decode cX3_trial 10 = .ok (.aload_n 0, 1) := by decide +kernel
theorem dX3_trial_11 : decode cX3_trial 11 = .ok (.getfield 10, 3) := by decide +kernel
theorem dX3_trial_14 : decode cX3_trial 14 = .ok (.invokevirtual 117, 3) := by decide +kernel
theorem dX3_trial_17 : decode cX3_trial 17 = .ok (.aload_n 0, 1) := by decide +kernel
theorem dX3_trial_18 : decode cX3_trial 18 = .ok (.getfield 16, 3) := by decide +kernel
theorem dX3_trial_21 : decode cX3_trial 21 = .ok (.iload_n 1, 1) := by decide +kernel
theorem dX3_trial_22 : decode cX3_trial 22 = .ok (.iload_n 2, 1) := by decide +kernel
theorem dX3_trial_23 : decode cX3_trial 23 = .ok (.iload_n 3, 1) := by decide +kernel
theorem dX3_trial_24 : decode cX3_trial 24 = .ok (.invokevirtual 38, 3) := by decide +kernel
theorem dX3_trial_27 : decode cX3_trial 27 = .ok (.ireturn, 1) := by decide +kernel
theorem dX3_advise_0 : decode cX3_advise 0 = .ok (.iload_n 1, 1) := by decide +kernel
theorem dX3_advise_1 : decode cX3_advise 1 = .ok (.iload_n 2, 1) := by decide +kernel
theorem dX3_advise_2 : decode cX3_advise 2 = .ok (.iload_n 3, 1) := by decide +kernel
theorem dX3_advise_3 : decode cX3_advise 3 = .ok (.invokestatic 34, 3) := by decide +kernel
theorem dX3_advise_6 : decode cX3_advise 6 = .ok (.iconst (-1), 1) := by decide +kernel
theorem dX3_advise_7 : decode cX3_advise 7 = .ok (.istore 4, 2) := by decide +kernel
theorem dX3_advise_9 : decode cX3_advise 9 = .ok (.iconst (-1), 1) := by decide +kernel
theorem dX3_advise_10 : decode cX3_advise 10 = .ok (.istore 5, 2) := by decide +kernel
theorem dX3_advise_12 : decode cX3_advise 12 = .ok (.iconst 2, 1) := by decide +kernel
theorem dX3_advise_13 : decode cX3_advise 13 = .ok (.aload_n 0, 1) := by decide +kernel
theorem dX3_advise_14 : decode cX3_advise 14 = .ok (.getfield 10, 3) := by decide +kernel
theorem dX3_advise_17 : decode cX3_advise 17 = .ok (.invokevirtual 72, 3) := by decide +kernel
theorem dX3_advise_20 : decode cX3_advise 20 = .ok (.invokestatic 127, 3) := by decide +kernel
theorem dX3_advise_23 : decode cX3_advise 23 = .ok (.istore 6, 2) := by decide +kernel
theorem dX3_advise_25 : decode cX3_advise 25 = .ok (.iload 6, 2) := by decide +kernel
theorem dX3_advise_27 : decode cX3_advise 27 = .ok (.bipush 12, 2) := by decide +kernel
theorem dX3_advise_29 : decode cX3_advise 29 = .ok (.if_icmp .gt 56, 3) := by decide +kernel
theorem dX3_advise_32 : decode cX3_advise 32 = .ok (.aload_n 0, 1) := by decide +kernel
theorem dX3_advise_33 : decode cX3_advise 33 = .ok (.getfield 16, 3) := by decide +kernel
theorem dX3_advise_36 : decode cX3_advise 36 = .ok (.aload_n 0, 1) := by decide +kernel
theorem dX3_advise_37 : decode cX3_advise 37 = .ok (.getfield 10, 3) := by decide +kernel
theorem dX3_advise_40 : decode cX3_advise 40 = .ok (.invokevirtual 117, 3) := by decide +kernel
theorem dX3_advise_43 : decode cX3_advise 43 = .ok (.aload_n 0, 1) := by decide +kernel
theorem dX3_advise_44 : decode cX3_advise 44 = .ok (.getfield 16, 3) := by decide +kernel
theorem dX3_advise_47 : decode cX3_advise 47 = .ok (.iload 6, 2) := by decide +kernel
theorem dX3_advise_49 : decode cX3_advise 49 = .ok (.invokevirtual 82, 3) := by decide +kernel
theorem dX3_advise_52 : decode cX3_advise 52 = .ok (.aload_n 0, 1) := by decide +kernel
theorem dX3_advise_53 : decode cX3_advise 53 = .ok (.getfield 16, 3) := by decide +kernel
theorem dX3_advise_56 : decode cX3_advise 56 = .ok (.iload_n 1, 1) := by decide +kernel
theorem dX3_advise_57 : decode cX3_advise 57 = .ok (.iload_n 2, 1) := by decide +kernel
theorem dX3_advise_58 : decode cX3_advise 58 = .ok (.iload_n 3, 1) := by decide +kernel
theorem dX3_advise_59 : decode cX3_advise 59 = .ok (.invokevirtual 38, 3) := by decide +kernel
theorem dX3_advise_62 : decode cX3_advise 62 = .ok (.istore 7, 2) := by decide +kernel
theorem dX3_advise_64 : decode cX3_advise 64 = .ok (.iload 7, 2) := by decide +kernel
theorem dX3_advise_66 : decode cX3_advise 66 = .ok (.iload 5, 2) := by decide +kernel
theorem dX3_advise_68 : decode cX3_advise 68 = .ok (.if_icmp .le 11, 3) := by decide +kernel
theorem dX3_advise_71 : decode cX3_advise 71 = .ok (.iload 7, 2) := by decide +kernel
theorem dX3_advise_73 : decode cX3_advise 73 = .ok (.istore 5, 2) := by decide +kernel
theorem dX3_advise_75 : decode cX3_advise 75 = .ok (.iload 6, 2) := by decide +kernel
theorem dX3_advise_77 : decode cX3_advise 77 = .ok (.istore 4, 2) := by decide +kernel
theorem dX3_advise_79 : decode cX3_advise 79 = .ok (.iinc 6 1, 3) := by decide +kernel
theorem dX3_advise_82 : decode cX3_advise 82 = .ok (.goto (-57), 3) := by decide +kernel
theorem dX3_advise_85 : decode cX3_advise 85 = .ok (.iload 4, 2) := by decide +kernel
theorem dX3_advise_87 : decode cX3_advise 87 = .ok (.ireturn, 1) := by decide +kernel
theorem dX3_mean_0 : decode cX3_mean 0 = .ok (.aload_n 0, 1) := by decide +kernel
theorem dX3_mean_1 : decode cX3_mean 1 = .ok (.getfield 10, 3) := by decide +kernel
theorem dX3_mean_4 : decode cX3_mean 4 = .ok (.invokevirtual 132, 3) := by decide +kernel
theorem dX3_mean_7 : decode cX3_mean 7 = .ok (.istore_n 1, 1) := by decide +kernel
theorem dX3_mean_8 : decode cX3_mean 8 = .ok (.iload_n 1, 1) := by decide +kernel
theorem dX3_mean_9 : decode cX3_mean 9 = .ok (.iconst 1, 1) := by decide +kernel
theorem dX3_mean_10 : decode cX3_mean 10 = .ok (.if_icmp .ge 7, 3) := by decide +kernel
theorem dX3_mean_13 : decode cX3_mean 13 = .ok (.dconst 0, 1) := by decide +kernel
theorem dX3_mean_14 : decode cX3_mean 14 = .ok (.goto 14, 3) := by decide +kernel
theorem dX3_mean_17 : decode cX3_mean 17 = .ok (.aload_n 0, 1) := by decide +kernel
theorem dX3_mean_18 : decode cX3_mean 18 = .ok (.getfield 10, 3) := by decide +kernel
theorem dX3_mean_21 : decode cX3_mean 21 = .ok (.invokevirtual 135, 3) := by decide +kernel
theorem dX3_mean_24 : decode cX3_mean 24 = .ok (.i2d, 1) := by decide +kernel
theorem dX3_mean_25 : decode cX3_mean 25 = .ok (.iload_n 1, 1) := by decide +kernel
theorem dX3_mean_26 : decode cX3_mean 26 = .ok (.i2d, 1) := by decide +kernel
theorem dX3_mean_27 : decode cX3_mean 27 = .ok (.ddiv, 1) := by decide +kernel
theorem dX3_mean_28 : decode cX3_mean 28 = .ok (.dreturn, 1) := by decide +kernel
theorem dX3_digest_0 : decode cX3_digest 0 = .ok (.ldc2_w 138, 3) := by decide +kernel
theorem dX3_digest_3 : decode cX3_digest 3 = .ok (.lstore_n 1, 1) := by decide +kernel
theorem dX3_digest_4 : decode cX3_digest 4 = .ok (.iconst 0, 1) := by decide +kernel
theorem dX3_digest_5 : decode cX3_digest 5 = .ok (.istore_n 3, 1) := by decide +kernel
theorem dX3_digest_6 : decode cX3_digest 6 = .ok (.iload_n 3, 1) := by decide +kernel
theorem dX3_digest_7 : decode cX3_digest 7 = .ok (.bipush 11, 2) := by decide +kernel
theorem dX3_digest_9 : decode cX3_digest 9 = .ok (.if_icmp .ge 25, 3) := by decide +kernel
theorem dX3_digest_12 : decode cX3_digest 12 = .ok (.lload_n 1, 1) := by decide +kernel
theorem dX3_digest_13 : decode cX3_digest 13 = .ok (.ldc2_w 140, 3) := by decide +kernel
theorem dX3_digest_16 : decode cX3_digest 16 = .ok (.lmul, 1) := by decide +kernel
theorem dX3_digest_17 : decode cX3_digest 17 = .ok (.aload_n 0, 1) := by decide +kernel
theorem dX3_digest_18 : decode cX3_digest 18 = .ok (.getfield 10, 3) := by decide +kernel
theorem dX3_digest_21 : decode cX3_digest 21 = .ok (.iload_n 3, 1) := by decide +kernel
theorem dX3_digest_22 : decode cX3_digest 22 = .ok (.invokevirtual 114, 3) := by decide +kernel
theorem dX3_digest_25 : decode cX3_digest 25 = .ok (.i2l, 1) := by decide +kernel
theorem dX3_digest_26 : decode cX3_digest 26 = .ok (.ladd, 1) := by decide +kernel
theorem dX3_digest_27 : decode cX3_digest 27 = .ok (.lstore_n 1, 1) := by decide +kernel
theorem dX3_digest_28 : decode cX3_digest 28 = .ok (.iinc 3 1, 3) := by decide +kernel
theorem dX3_digest_31 : decode cX3_digest 31 = .ok (.goto (-25), 3) := by decide +kernel
theorem dX3_digest_34 : decode cX3_digest 34 = .ok (.iconst 0, 1) := by decide +kernel
theorem dX3_digest_35 : decode cX3_digest 35 = .ok (.istore_n 3, 1) := by decide +kernel
theorem dX3_digest_36 : decode cX3_digest 36 = .ok (.iload_n 3, 1) := by decide +kernel
theorem dX3_digest_37 : decode cX3_digest 37 = .ok (.iconst 2, 1) := by decide +kernel
theorem dX3_digest_38 : decode cX3_digest 38 = .ok (.if_icmp .ge 39, 3) := by decide +kernel
theorem dX3_digest_41 : decode cX3_digest 41 = .ok (.aload_n 0, 1) := by decide +kernel
theorem dX3_digest_42 : decode cX3_digest 42 = .ok (.getfield 10, 3) := by decide +kernel
theorem dX3_digest_45 : decode cX3_digest 45 = .ok (.lload_n 1, 1) := by decide +kernel
theorem dX3_digest_46 : decode cX3_digest 46 = .ok (.aload_n 0, 1) := by decide +kernel
theorem dX3_digest_47 : decode cX3_digest 47 = .ok (.getfield 10, 3) := by decide +kernel
theorem dX3_digest_50 : decode cX3_digest 50 = .ok (.iload_n 3, 1) := by decide +kernel
theorem dX3_digest_51 : decode cX3_digest 51 = .ok (.invokevirtual 101, 3) := by decide +kernel
theorem dX3_digest_54 : decode cX3_digest 54 = .ok (.invokevirtual 142, 3) := by decide +kernel
theorem dX3_digest_57 : decode cX3_digest 57 = .ok (.lstore_n 1, 1) := by decide +kernel
theorem dX3_digest_58 : decode cX3_digest 58 = .ok (.aload_n 0, 1) := by decide +kernel
theorem dX3_digest_59 : decode cX3_digest 59 = .ok (.getfield 10, 3) := by decide +kernel
theorem dX3_digest_62 : decode cX3_digest 62 = .ok (.iload_n 3, 1) := by decide +kernel
theorem dX3_digest_63 : decode cX3_digest 63 = .ok (.invokevirtual 109, 3) := by decide +kernel
theorem dX3_digest_66 : decode cX3_digest 66 = .ok (.lload_n 1, 1) := by decide +kernel
theorem dX3_digest_67 : decode cX3_digest 67 = .ok (.invokevirtual 146, 3) := by decide +kernel
theorem dX3_digest_70 : decode cX3_digest 70 = .ok (.lstore_n 1, 1) := by decide +kernel
theorem dX3_digest_71 : decode cX3_digest 71 = .ok (.iinc 3 1, 3) := by decide +kernel
theorem dX3_digest_74 : decode cX3_digest 74 = .ok (.goto (-38), 3) := by decide +kernel
theorem dX3_digest_77 : decode cX3_digest 77 = .ok (.lload_n 1, 1) := by decide +kernel
theorem dX3_digest_78 : decode cX3_digest 78 = .ok (.lreturn, 1) := by decide +kernel
theorem dX3_requireKind_0 : decode cX3_requireKind 0 = .ok (.iload_n 0, 1) := by decide +kernel
theorem dX3_requireKind_1 : decode cX3_requireKind 1 = .ok (.ifCond .lt 9, 3) := by decide +kernel
theorem dX3_requireKind_4 : decode cX3_requireKind 4 = .ok (.iload_n 0, 1) := by decide +kernel
theorem dX3_requireKind_5 : decode cX3_requireKind 5 = .ok (.bipush 40, 2) := by decide +kernel
theorem dX3_requireKind_7 : decode cX3_requireKind 7 = .ok (.if_icmp .lt 13, 3) := by decide +kernel
theorem dX3_requireKind_10 : decode cX3_requireKind 10 = .ok (.new 90, 3) := by decide +kernel
theorem dX3_requireKind_13 : decode cX3_requireKind 13 = .ok (.dup, 1) := by decide +kernel
theorem dX3_requireKind_14 : decode cX3_requireKind 14 = .ok (.ldc 152, 2) := by decide +kernel
theorem dX3_requireKind_16 : decode cX3_requireKind 16 = .ok (.invokespecial 94, 3) := by decide +kernel
theorem dX3_requireKind_19 : decode cX3_requireKind 19 = .ok (.athrow, 1) := by decide +kernel
theorem dX3_requireKind_20 : decode cX3_requireKind 20 = .ok (.return_, 1) := by decide +kernel
theorem dX3_requireSeries_0 : decode cX3_requireSeries 0 = .ok (.iload_n 0, 1) := by decide +kernel
theorem dX3_requireSeries_1 : decode cX3_requireSeries 1 = .ok (.invokestatic 19, 3) := by decide +kernel
theorem dX3_requireSeries_4 : decode cX3_requireSeries 4 = .ok (.iload_n 1, 1) := by decide +kernel
theorem dX3_requireSeries_5 : decode cX3_requireSeries 5 = .ok (.ifCond .lt 9, 3) := by decide +kernel
theorem dX3_requireSeries_8 : decode cX3_requireSeries 8 = .ok (.iload_n 1, 1) := by decide +kernel
theorem dX3_requireSeries_9 : decode cX3_requireSeries 9 = .ok (.bipush 40, 2) := by decide +kernel
theorem dX3_requireSeries_11 : decode cX3_requireSeries 11 = .ok (.if_icmp .lt 13, 3) := by decide +kernel
theorem dX3_requireSeries_14 : decode cX3_requireSeries 14 = .ok (.new 67, 3) := by decide +kernel
theorem dX3_requireSeries_17 : decode cX3_requireSeries 17 = .ok (.dup, 1) := by decide +kernel
theorem dX3_requireSeries_18 : decode cX3_requireSeries 18 = .ok (.ldc 154, 2) := by decide +kernel
theorem dX3_requireSeries_20 : decode cX3_requireSeries 20 = .ok (.invokespecial 71, 3) := by decide +kernel
theorem dX3_requireSeries_23 : decode cX3_requireSeries 23 = .ok (.athrow, 1) := by decide +kernel
theorem dX3_requireSeries_24 : decode cX3_requireSeries 24 = .ok (.iload_n 2, 1) := by decide +kernel
theorem dX3_requireSeries_25 : decode cX3_requireSeries 25 = .ok (.iconst 1, 1) := by decide +kernel
theorem dX3_requireSeries_26 : decode cX3_requireSeries 26 = .ok (.if_icmp .lt 9, 3) := by decide +kernel
theorem dX3_requireSeries_29 : decode cX3_requireSeries 29 = .ok (.iload_n 2, 1) := by decide +kernel
theorem dX3_requireSeries_30 : decode cX3_requireSeries 30 = .ok (.bipush 30, 2) := by decide +kernel
theorem dX3_requireSeries_32 : decode cX3_requireSeries 32 = .ok (.if_icmp .le 13, 3) := by decide +kernel
theorem dX3_requireSeries_35 : decode cX3_requireSeries 35 = .ok (.new 67, 3) := by decide +kernel
theorem dX3_requireSeries_38 : decode cX3_requireSeries 38 = .ok (.dup, 1) := by decide +kernel
theorem dX3_requireSeries_39 : decode cX3_requireSeries 39 = .ok (.ldc 156, 2) := by decide +kernel
theorem dX3_requireSeries_41 : decode cX3_requireSeries 41 = .ok (.invokespecial 71, 3) := by decide +kernel
theorem dX3_requireSeries_44 : decode cX3_requireSeries 44 = .ok (.athrow, 1) := by decide +kernel
theorem dX3_requireSeries_45 : decode cX3_requireSeries 45 = .ok (.return_, 1) := by decide +kernel
theorem dX3_requireShelf_0 : decode cX3_requireShelf 0 = .ok (.iload_n 0, 1) := by decide +kernel
theorem dX3_requireShelf_1 : decode cX3_requireShelf 1 = .ok (.ifCond .eq 18, 3) := by decide +kernel
theorem dX3_requireShelf_4 : decode cX3_requireShelf 4 = .ok (.iload_n 0, 1) := by decide +kernel
theorem dX3_requireShelf_5 : decode cX3_requireShelf 5 = .ok (.iconst 1, 1) := by decide +kernel
theorem dX3_requireShelf_6 : decode cX3_requireShelf 6 = .ok (.if_icmp .eq 13, 3) := by decide +kernel
theorem dX3_requireShelf_9 : decode cX3_requireShelf 9 = .ok (.new 90, 3) := by decide +kernel
theorem dX3_requireShelf_12 : decode cX3_requireShelf 12 = .ok (.dup, 1) := by decide +kernel
theorem dX3_requireShelf_13 : decode cX3_requireShelf 13 = .ok (.ldc 158, 2) := by decide +kernel
theorem dX3_requireShelf_15 : decode cX3_requireShelf 15 = .ok (.invokespecial 94, 3) := by decide +kernel
theorem dX3_requireShelf_18 : decode cX3_requireShelf 18 = .ok (.athrow, 1) := by decide +kernel
theorem dX3_requireShelf_19 : decode cX3_requireShelf 19 = .ok (.return_, 1) := by decide +kernel
theorem dX3_requireAt_0 : decode cX3_requireAt 0 = .ok (.aload_n 0, 1) := by decide +kernel
theorem dX3_requireAt_1 : decode cX3_requireAt 1 = .ok (.iload_n 1, 1) := by decide +kernel
theorem dX3_requireAt_2 : decode cX3_requireAt 2 = .ok (.invokevirtual 160, 3) := by decide +kernel
theorem dX3_requireAt_5 : decode cX3_requireAt 5 = .ok (.istore_n 2, 1) := by decide +kernel
theorem dX3_requireAt_6 : decode cX3_requireAt 6 = .ok (.iload_n 2, 1) := by decide +kernel
theorem dX3_requireAt_7 : decode cX3_requireAt 7 = .ok (.iconst (-1), 1) := by decide +kernel
theorem dX3_requireAt_8 : decode cX3_requireAt 8 = .ok (.if_icmp .ne 13, 3) := by decide +kernel
theorem dX3_requireAt_11 : decode cX3_requireAt 11 = .ok (.new 90, 3) := by decide +kernel
theorem dX3_requireAt_14 : decode cX3_requireAt 14 = .ok (.dup, 1) := by decide +kernel
theorem dX3_requireAt_15 : decode cX3_requireAt 15 = .ok (.ldc 163, 2) := by decide +kernel
theorem dX3_requireAt_17 : decode cX3_requireAt 17 = .ok (.invokespecial 94, 3) := by decide +kernel
theorem dX3_requireAt_20 : decode cX3_requireAt 20 = .ok (.athrow, 1) := by decide +kernel
theorem dX3_requireAt_21 : decode cX3_requireAt 21 = .ok (.iload_n 2, 1) := by decide +kernel
theorem dX3_requireAt_22 : decode cX3_requireAt 22 = .ok (.ireturn, 1) := by decide +kernel
theorem dX3_requireJar_0 : decode cX3_requireJar 0 = .ok (.aload_n 0, 1) := by decide +kernel
theorem dX3_requireJar_1 : decode cX3_requireJar 1 = .ok (.getfield 10, 3) := by decide +kernel
theorem dX3_requireJar_4 : decode cX3_requireJar 4 = .ok (.iload_n 1, 1) := by decide +kernel
theorem dX3_requireJar_5 : decode cX3_requireJar 5 = .ok (.invokevirtual 165, 3) := by decide +kernel
theorem dX3_requireJar_8 : decode cX3_requireJar 8 = .ok (.ifCond .ne 13, 3) := by decide +kernel
theorem dX3_requireJar_11 : decode cX3_requireJar 11 = .ok (.new 27, 3) := by decide +kernel
theorem dX3_requireJar_14 : decode cX3_requireJar 14 = .ok (.dup, 1) := by decide +kernel
theorem dX3_requireJar_15 : decode cX3_requireJar 15 = .ok (.ldc 169, 2) := by decide +kernel
theorem dX3_requireJar_17 : decode cX3_requireJar 17 = .ok (.invokespecial 31, 3) := by decide +kernel
theorem dX3_requireJar_20 : decode cX3_requireJar 20 = .ok (.athrow, 1) := by decide +kernel
theorem dX3_requireJar_21 : decode cX3_requireJar 21 = .ok (.return_, 1) := by decide +kernel
end
section
theorem dX4_init_0 : decode cX4_init 0 = .ok (.aload_n 0, 1) := by decide +kernel
theorem dX4_init_1 : decode cX4_init 1 = .ok (.invokespecial 1, 3) := by decide +kernel
theorem dX4_init_4 : decode cX4_init 4 = .ok (.aload_n 0, 1) := by decide +kernel
theorem dX4_init_5 : decode cX4_init 5 = .ok (.sipush 160, 3) := by decide +kernel
theorem dX4_init_8 : decode cX4_init 8 = .ok (.newarray .int, 2) := by decide +kernel
theorem dX4_init_10 : decode cX4_init 10 = .ok (.putfield 9, 3) := by decide +kernel
theorem dX4_init_13 : decode cX4_init 13 = .ok (.aload_n 0, 1) := by decide +kernel
theorem dX4_init_14 : decode cX4_init 14 = .ok (.bipush 24, 2) := by decide +kernel
theorem dX4_init_16 : decode cX4_init 16 = .ok (.newarray .int, 2) := by decide +kernel
theorem dX4_init_18 : decode cX4_init 18 = .ok (.putfield 13, 3) := by decide +kernel
theorem dX4_init_21 : decode cX4_init 21 = .ok (.aload_n 0, 1) := by decide +kernel
theorem dX4_init_22 : decode cX4_init 22 = .ok (.bipush 26, 2) := by decide +kernel
theorem dX4_init_24 : decode cX4_init 24 = .ok (.newarray .int, 2) := by decide +kernel
theorem dX4_init_26 : decode cX4_init 26 = .ok (.putfield 16, 3) := by decide +kernel
theorem dX4_init_29 : decode cX4_init 29 = .ok (.aload_n 0, 1) := by decide +kernel
theorem dX4_init_30 : decode cX4_init 30 = .ok (.bipush 10, 2) := by decide +kernel
theorem dX4_init_32 : decode cX4_init 32 = .ok (.newarray .int, 2) := by decide +kernel
theorem dX4_init_34 : decode cX4_init 34 = .ok (.putfield 19, 3) := by decide +kernel
theorem dX4_init_37 : decode cX4_init 37 = .ok (.iconst 0, 1) := by decide +kernel
theorem dX4_init_38 : decode cX4_init 38 = .ok (.istore_n 1, 1) := by decide +kernel
theorem dX4_init_39 : decode cX4_init 39 = .ok (.iload_n 1, 1) := by decide +kernel
theorem dX4_init_40 : decode cX4_init 40 = .ok (.bipush 40, 2) := by decide +kernel
theorem dX4_init_42 : decode cX4_init 42 = .ok (.if_icmp .ge 20, 3) := by decide +kernel
theorem dX4_init_45 : decode cX4_init 45 = .ok (.aload_n 0, 1) := by decide +kernel
theorem dX4_init_46 : decode cX4_init 46 = .ok (.getfield 9, 3) := by decide +kernel
theorem dX4_init_49 : decode cX4_init 49 = .ok (.iconst 4, 1) := by decide +kernel
theorem dX4_init_50 : decode cX4_init 50 = .ok (.iload_n 1, 1) := by decide +kernel
theorem dX4_init_51 : decode cX4_init 51 = .ok (.imul, 1) := by decide +kernel
theorem dX4_init_52 : decode cX4_init 52 = .ok (.iconst 0, 1) := by decide +kernel
theorem dX4_init_53 : decode cX4_init 53 = .ok (.iadd, 1) := by decide +kernel
theorem dX4_init_54 : decode cX4_init 54 = .ok (.iconst (-1), 1) := by decide +kernel
theorem dX4_init_55 : decode cX4_init 55 = .ok (.iastore, 1) := by decide +kernel
theorem dX4_init_56 : decode cX4_init 56 = .ok (.iinc 1 1, 3) := by decide +kernel
theorem dX4_init_59 : decode cX4_init 59 = .ok (.goto (-20), 3) := by decide +kernel
theorem dX4_init_62 : decode cX4_init 62 = .ok (.aload_n 0, 1) := by decide +kernel
theorem dX4_init_63 : decode cX4_init 63 = .ok (.getfield 19, 3) := by decide +kernel
theorem dX4_init_66 : decode cX4_init 66 = .ok (.iconst 0, 1) := by decide +kernel
theorem dX4_init_67 : decode cX4_init 67 = .ok (.bipush 6, 2) := by decide +kernel
theorem dX4_init_69 : decode cX4_init 69 = .ok (.iastore, 1) := by decide +kernel
theorem dX4_init_70 : decode cX4_init 70 = .ok (.return_, 1) := by decide +kernel
theorem dX4_thrown_0 : decode cX4_thrown 0 = .ok (.aload_n 0, 1) := by decide +kernel
theorem dX4_thrown_1 : decode cX4_thrown 1 = .ok (.getfield 22, 3) := by decide +kernel
theorem dX4_thrown_4 : decode cX4_thrown 4 = .ok (.ireturn, 1) := by decide +kernel
theorem dX4_fail_0 : decode cX4_fail 0 = .ok (.aload_n 0, 1) := by decide +kernel
theorem dX4_fail_1 : decode cX4_fail 1 = .ok (.iload_n 1, 1) := by decide +kernel
theorem dX4_fail_2 : decode cX4_fail 2 = .ok (.putfield 22, 3) := by decide +kernel
theorem dX4_fail_5 : decode cX4_fail 5 = .ok (.iconst 0, 1) := by decide +kernel
theorem dX4_fail_6 : decode cX4_fail 6 = .ok (.ireturn, 1) := by decide +kernel
theorem dX4_isIn_0 : decode cX4_isIn 0 = .ok (.iload_n 0, 1) := by decide +kernel
theorem dX4_isIn_1 : decode cX4_isIn 1 = .ok (.iload_n 1, 1) := by decide +kernel
theorem dX4_isIn_2 : decode cX4_isIn 2 = .ok (.if_icmp .lt 12, 3) := by decide +kernel
theorem dX4_isIn_5 : decode cX4_isIn 5 = .ok (.iload_n 0, 1) := by decide +kernel
theorem dX4_isIn_6 : decode cX4_isIn 6 = .ok (.iload_n 2, 1) := by decide +kernel
theorem dX4_isIn_7 : decode cX4_isIn 7 = .ok (.if_icmp .gt 7, 3) := by decide +kernel
theorem dX4_isIn_10 : decode cX4_isIn 10 = .ok (.iconst 1, 1) := by decide +kernel
theorem dX4_isIn_11 : decode cX4_isIn 11 = .ok (.goto 4, 3) := by decide +kernel
theorem dX4_isIn_14 : decode cX4_isIn 14 = .ok (.iconst 0, 1) := by decide +kernel
theorem dX4_isIn_15 : decode cX4_isIn 15 = .ok (.ireturn, 1) := by decide +kernel
theorem dX4_isKind_0 : decode cX4_isKind 0 = .ok (.iload_n 0, 1) := by decide +kernel
theorem dX4_isKind_1 : decode cX4_isKind 1 = .ok (.iconst 0, 1) := by decide +kernel
theorem dX4_isKind_2 : decode cX4_isKind 2 = .ok (.bipush 39, 2) := by decide +kernel
theorem dX4_isKind_4 : decode cX4_isKind 4 = .ok (.invokestatic 26, 3) := by decide +kernel
theorem dX4_isKind_7 : decode cX4_isKind 7 = .ok (.ireturn, 1) := by decide +kernel
theorem dX4_ja_0 : decode cX4_ja 0 = .ok (.aload_n 0, 1) := by decide +kernel
theorem dX4_ja_1 : decode cX4_ja 1 = .ok (.getfield 9, 3) := by decide +kernel
theorem dX4_ja_4 : decode cX4_ja 4 = .ok (.iconst 4, 1) := by decide +kernel
theorem dX4_ja_5 : decode cX4_ja 5 = .ok (.iload_n 1, 1) := by decide +kernel
theorem dX4_ja_6 : decode cX4_ja 6 = .ok (.imul, 1) := by decide +kernel
theorem dX4_ja_7 : decode cX4_ja 7 = .ok (.iload_n 2, 1) := by decide +kernel
theorem dX4_ja_8 : decode cX4_ja 8 = .ok (.iadd, 1) := by decide +kernel
theorem dX4_ja_9 : decode cX4_ja 9 = .ok (.iaload, 1) := by decide +kernel
theorem dX4_ja_10 : decode cX4_ja 10 = .ok (.ireturn, 1) := by decide +kernel
theorem dX4_isThere_0 : decode cX4_isThere 0 = .ok (.aload_n 0, 1) := by decide +kernel
theorem dX4_isThere_1 : decode cX4_isThere 1 = .ok (.iload_n 1, 1) := by decide +kernel
theorem dX4_isThere_2 : decode cX4_isThere 2 = .ok (.iconst 0, 1) := by decide +kernel
theorem dX4_isThere_3 : decode cX4_isThere 3 = .ok (.invokevirtual 30, 3) := by decide +kernel
theorem dX4_isThere_6 : decode cX4_isThere 6 = .ok (.iconst (-1), 1) := by decide +kernel
theorem dX4_isThere_7 : decode cX4_isThere 7 = .ok (.if_icmp .eq 7, 3) := by decide +kernel
theorem dX4_isThere_10 : decode cX4_isThere 10 = .ok (.iconst 1, 1) := by decide +kernel
theorem dX4_isThere_11 : decode cX4_isThere 11 = .ok (.goto 4, 3) := by decide +kernel
theorem dX4_isThere_14 : decode cX4_isThere 14 = .ok (.iconst 0, 1) := by decide +kernel
theorem dX4_isThere_15 : decode cX4_isThere 15 = .ok (.ireturn, 1) := by decide +kernel
theorem dX4_many_0 : decode cX4_many 0 = .ok (.aload_n 0, 1) := by decide +kernel
theorem dX4_many_1 : decode cX4_many 1 = .ok (.getfield 19, 3) := by decide +kernel
theorem dX4_many_4 : decode cX4_many 4 = .ok (.bipush 6, 2) := by decide +kernel
theorem dX4_many_6 : decode cX4_many 6 = .ok (.iload_n 1, 1) := by decide +kernel
theorem dX4_many_7 : decode cX4_many 7 = .ok (.iadd, 1) := by decide +kernel
theorem dX4_many_8 : decode cX4_many 8 = .ok (.iaload, 1) := by decide +kernel
theorem dX4_many_9 : decode cX4_many 9 = .ok (.ireturn, 1) := by decide +kernel
theorem dX4_all_0 : decode cX4_all 0 = .ok (.aload_n 0, 1) := by decide +kernel
theorem dX4_all_1 : decode cX4_all 1 = .ok (.iconst 0, 1) := by decide +kernel
theorem dX4_all_2 : decode cX4_all 2 = .ok (.invokevirtual 34, 3) := by decide +kernel
theorem dX4_all_5 : decode cX4_all 5 = .ok (.aload_n 0, 1) := by decide +kernel
theorem dX4_all_6 : decode cX4_all 6 = .ok (.iconst 1, 1) := by decide +kernel
theorem dX4_all_7 : decode cX4_all 7 = .ok (.invokevirtual 34, 3) := by decide +kernel
theorem dX4_all_10 : decode cX4_all 10 = .ok (.iadd, 1) := by decide +kernel
theorem dX4_all_11 : decode cX4_all 11 = .ok (.ireturn, 1) := by decide +kernel
theorem dX4_kindAt_0 : decode cX4_kindAt 0 = .ok (.aload_n 0, 1) := by decide +kernel
theorem dX4_kindAt_1 : decode cX4_kindAt 1 = .ok (.getfield 13, 3) := by decide +kernel
theorem dX4_kindAt_4 : decode cX4_kindAt 4 = .ok (.bipush 12, 2) := by decide +kernel
theorem dX4_kindAt_6 : decode cX4_kindAt 6 = .ok (.iload_n 1, 1) := by decide +kernel
theorem dX4_kindAt_7 : decode cX4_kindAt 7 = .ok (.imul, 1) := by decide +kernel
theorem dX4_kindAt_8 : decode cX4_kindAt 8 = .ok (.iload_n 2, 1) := by decide +kernel
theorem dX4_kindAt_9 : decode cX4_kindAt 9 = .ok (.iadd, 1) := by decide +kernel
theorem dX4_kindAt_10 : decode cX4_kindAt 10 = .ok (.iaload, 1) := by decide +kernel
theorem dX4_kindAt_11 : decode cX4_kindAt 11 = .ok (.ireturn, 1) := by decide +kernel
theorem dX4_listed_0 : decode cX4_listed 0 = .ok (.aload_n 0, 1) := by decide +kernel
theorem dX4_listed_1 : decode cX4_listed 1 = .ok (.getfield 19, 3) := by decide +kernel
theorem dX4_listed_4 : decode cX4_listed 4 = .ok (.bipush 8, 2) := by decide +kernel
theorem dX4_listed_6 : decode cX4_listed 6 = .ok (.iload_n 1, 1) := by decide +kernel
theorem dX4_listed_7 : decode cX4_listed 7 = .ok (.iadd, 1) := by decide +kernel
theorem dX4_listed_8 : decode cX4_listed 8 = .ok (.iaload, 1) := by decide +kernel
theorem dX4_listed_9 : decode cX4_listed 9 = .ok (.ireturn, 1) := by decide +kernel
theorem dX4_listedAt_0 : decode cX4_listedAt 0 = .ok (.aload_n 0, 1) := by decide +kernel
theorem dX4_listedAt_1 : decode cX4_listedAt 1 = .ok (.getfield 16, 3) := by decide +kernel
theorem dX4_listedAt_4 : decode cX4_listedAt 4 = .ok (.bipush 13, 2) := by decide +kernel
theorem dX4_listedAt_6 : decode cX4_listedAt 6 = .ok (.iload_n 1, 1) := by decide +kernel
theorem dX4_listedAt_7 : decode cX4_listedAt 7 = .ok (.imul, 1) := by decide +kernel
theorem dX4_listedAt_8 : decode cX4_listedAt 8 = .ok (.iload_n 2, 1) := by decide +kernel
theorem dX4_listedAt_9 : decode cX4_listedAt 9 = .ok (.iadd, 1) := by decide +kernel
theorem dX4_listedAt_10 : decode cX4_listedAt 10 = .ok (.iaload, 1) := by decide +kernel
theorem dX4_listedAt_11 : decode cX4_listedAt 11 = .ok (.ireturn, 1) := by decide +kernel
theorem dX4_putLast_0 : decode cX4_putLast 0 = .ok (.aload_n 0, 1) := by decide +kernel
theorem dX4_putLast_1 : decode cX4_putLast 1 = .ok (.getfield 13, 3) := by decide +kernel
theorem dX4_putLast_4 : decode cX4_putLast 4 = .ok (.bipush 12, 2) := by decide +kernel
theorem dX4_putLast_6 : decode cX4_putLast 6 = .ok (.iload_n 1, 1) := by decide +kernel
theorem dX4_putLast_7 : decode cX4_putLast 7 = .ok (.imul, 1) := by decide +kernel
theorem dX4_putLast_8 : decode cX4_putLast 8 = .ok (.aload_n 0, 1) := by decide +kernel
theorem dX4_putLast_9 : decode cX4_putLast 9 = .ok (.iload_n 1, 1) := by decide +kernel
theorem dX4_putLast_10 : decode cX4_putLast 10 = .ok (.invokevirtual 34, 3) := by decide +kernel
theorem dX4_putLast_13 : decode cX4_putLast 13 = .ok (.iadd, 1) := by decide +kernel
theorem dX4_putLast_14 : decode cX4_putLast 14 = .ok (.iload_n 2, 1) := by decide +kernel
theorem dX4_putLast_15 : decode cX4_putLast 15 = .ok (.iastore, 1) := by decide +kernel
theorem dX4_putLast_16 : decode cX4_putLast 16 = .ok (.aload_n 0, 1) := by decide +kernel
theorem dX4_putLast_17 : decode cX4_putLast 17 = .ok (.getfield 19, 3) := by decide +kernel
theorem dX4_putLast_20 : decode cX4_putLast 20 = .ok (.bipush 6, 2) := by decide +kernel
theorem dX4_putLast_22 : decode cX4_putLast 22 = .ok (.iload_n 1, 1) := by decide +kernel
theorem dX4_putLast_23 : decode cX4_putLast 23 = .ok (.iadd, 1) := by decide +kernel
theorem dX4_putLast_24 : decode cX4_putLast 24 = .ok (.dup2, 1) := by decide +kernel
theorem dX4_putLast_25 : decode cX4_putLast 25 = .ok (.iaload, 1) := by decide +kernel
theorem dX4_putLast_26 : decode cX4_putLast 26 = .ok (.iconst 1, 1) := by decide +kernel
theorem dX4_putLast_27 : decode cX4_putLast 27 = .ok (.iadd, 1) := by decide +kernel
theorem dX4_putLast_28 : decode cX4_putLast 28 = .ok (.iastore, 1) := by decide +kernel
theorem dX4_putLast_29 : decode cX4_putLast 29 = .ok (.aload_n 0, 1) := by decide +kernel
theorem dX4_putLast_30 : decode cX4_putLast 30 = .ok (.getfield 9, 3) := by decide +kernel
theorem dX4_putLast_33 : decode cX4_putLast 33 = .ok (.iconst 4, 1) := by decide +kernel
theorem dX4_putLast_34 : decode cX4_putLast 34 = .ok (.iload_n 2, 1) := by decide +kernel
theorem dX4_putLast_35 : decode cX4_putLast 35 = .ok (.imul, 1) := by decide +kernel
theorem dX4_putLast_36 : decode cX4_putLast 36 = .ok (.iconst 0, 1) := by decide +kernel
theorem dX4_putLast_37 : decode cX4_putLast 37 = .ok (.iadd, 1) := by decide +kernel
theorem dX4_putLast_38 : decode cX4_putLast 38 = .ok (.iload_n 1, 1) := by decide +kernel
theorem dX4_putLast_39 : decode cX4_putLast 39 = .ok (.iastore, 1) := by decide +kernel
theorem dX4_putLast_40 : decode cX4_putLast 40 = .ok (.return_, 1) := by decide +kernel
theorem dX4_takeOut_0 : decode cX4_takeOut 0 = .ok (.aload_n 0, 1) := by decide +kernel
theorem dX4_takeOut_1 : decode cX4_takeOut 1 = .ok (.getfield 19, 3) := by decide +kernel
theorem dX4_takeOut_4 : decode cX4_takeOut 4 = .ok (.bipush 6, 2) := by decide +kernel
theorem dX4_takeOut_6 : decode cX4_takeOut 6 = .ok (.iload_n 1, 1) := by decide +kernel
theorem dX4_takeOut_7 : decode cX4_takeOut 7 = .ok (.iadd, 1) := by decide +kernel
theorem dX4_takeOut_8 : decode cX4_takeOut 8 = .ok (.dup2, 1) := by decide +kernel
theorem dX4_takeOut_9 : decode cX4_takeOut 9 = .ok (.iaload, 1) := by decide +kernel
theorem dX4_takeOut_10 : decode cX4_takeOut 10 = .ok (.iconst 1, 1) := by decide +kernel
theorem dX4_takeOut_11 : decode cX4_takeOut 11 = .ok (.isub, 1) := by decide +kernel
theorem dX4_takeOut_12 : decode cX4_takeOut 12 = .ok (.iastore, 1) := by decide +kernel
theorem dX4_takeOut_13 : decode cX4_takeOut 13 = .ok (.aload_n 0, 1) := by decide +kernel
theorem dX4_takeOut_14 : decode cX4_takeOut 14 = .ok (.getfield 13, 3) := by decide +kernel
theorem dX4_takeOut_17 : decode cX4_takeOut 17 = .ok (.bipush 12, 2) := by decide +kernel
theorem dX4_takeOut_19 : decode cX4_takeOut 19 = .ok (.iload_n 1, 1) := by decide +kernel
theorem dX4_takeOut_20 : decode cX4_takeOut 20 = .ok (.imul, 1) := by decide +kernel
theorem dX4_takeOut_21 : decode cX4_takeOut 21 = .ok (.iload_n 2, 1) := by decide +kernel
theorem dX4_takeOut_22 : decode cX4_takeOut 22 = .ok (.iadd, 1) := by decide +kernel
theorem dX4_takeOut_23 : decode cX4_takeOut 23 = .ok (.iconst 1, 1) := by decide +kernel
theorem dX4_takeOut_24 : decode cX4_takeOut 24 = .ok (.iadd, 1) := by decide +kernel
theorem dX4_takeOut_25 : decode cX4_takeOut 25 = .ok (.aload_n 0, 1) := by decide +kernel
theorem dX4_takeOut_26 : decode cX4_takeOut 26 = .ok (.getfield 13, 3) := by decide +kernel
theorem dX4_takeOut_29 : decode cX4_takeOut 29 = .ok (.bipush 12, 2) := by decide +kernel
theorem dX4_takeOut_31 : decode cX4_takeOut 31 = .ok (.iload_n 1, 1) := by decide +kernel
theorem dX4_takeOut_32 : decode cX4_takeOut 32 = .ok (.imul, 1) := by decide +kernel
theorem dX4_takeOut_33 : decode cX4_takeOut 33 = .ok (.iload_n 2, 1) := by decide +kernel
theorem dX4_takeOut_34 : decode cX4_takeOut 34 = .ok (.iadd, 1) := by decide +kernel
theorem dX4_takeOut_35 : decode cX4_takeOut 35 = .ok (.aload_n 0, 1) := by decide +kernel
theorem dX4_takeOut_36 : decode cX4_takeOut 36 = .ok (.iload_n 1, 1) := by decide +kernel
theorem dX4_takeOut_37 : decode cX4_takeOut 37 = .ok (.invokevirtual 34, 3) := by decide +kernel
theorem dX4_takeOut_40 : decode cX4_takeOut 40 = .ok (.iload_n 2, 1) := by decide +kernel
theorem dX4_takeOut_41 : decode cX4_takeOut 41 = .ok (.isub, 1) := by decide +kernel
theorem dX4_takeOut_42 : decode cX4_takeOut 42 = .ok (.invokestatic 38, 3) := by decide +kernel
theorem dX4_takeOut_45 : decode cX4_takeOut 45 = .ok (.return_, 1) := by decide +kernel
theorem dX4_takeOff_0 : decode cX4_takeOff 0 = .ok (.aload_n 0, 1) := by decide +kernel
theorem dX4_takeOff_1 : decode cX4_takeOff 1 = .ok (.getfield 19, 3) := by decide +kernel
theorem dX4_takeOff_4 : decode cX4_takeOff 4 = .ok (.bipush 8, 2) := by decide +kernel
theorem dX4_takeOff_6 : decode cX4_takeOff 6 = .ok (.iload_n 1, 1) := by decide +kernel
theorem dX4_takeOff_7 : decode cX4_takeOff 7 = .ok (.iadd, 1) := by decide +kernel
theorem dX4_takeOff_8 : decode cX4_takeOff 8 = .ok (.dup2, 1) := by decide +kernel
theorem dX4_takeOff_9 : decode cX4_takeOff 9 = .ok (.iaload, 1) := by decide +kernel
theorem dX4_takeOff_10 : decode cX4_takeOff 10 = .ok (.iconst 1, 1) := by decide +kernel
theorem dX4_takeOff_11 : decode cX4_takeOff 11 = .ok (.isub, 1) := by decide +kernel
theorem dX4_takeOff_12 : decode cX4_takeOff 12 = .ok (.iastore, 1) := by decide +kernel
theorem dX4_takeOff_13 : decode cX4_takeOff 13 = .ok (.aload_n 0, 1) := by decide +kernel
theorem dX4_takeOff_14 : decode cX4_takeOff 14 = .ok (.getfield 16, 3) := by decide +kernel
theorem dX4_takeOff_17 : decode cX4_takeOff 17 = .ok (.bipush 13, 2) := by decide +kernel
theorem dX4_takeOff_19 : decode cX4_takeOff 19 = .ok (.iload_n 1, 1) := by decide +kernel
theorem dX4_takeOff_20 : decode cX4_takeOff 20 = .ok (.imul, 1) := by decide +kernel
theorem dX4_takeOff_21 : decode cX4_takeOff 21 = .ok (.iload_n 2, 1) := by decide +kernel
theorem dX4_takeOff_22 : decode cX4_takeOff 22 = .ok (.iadd, 1) := by decide +kernel
theorem dX4_takeOff_23 : decode cX4_takeOff 23 = .ok (.iconst 1, 1) := by decide +kernel
theorem dX4_takeOff_24 : decode cX4_takeOff 24 = .ok (.iadd, 1) := by decide +kernel
theorem dX4_takeOff_25 : decode cX4_takeOff 25 = .ok (.aload_n 0, 1) := by decide +kernel
theorem dX4_takeOff_26 : decode cX4_takeOff 26 = .ok (.getfield 16, 3) := by decide +kernel
theorem dX4_takeOff_29 : decode cX4_takeOff 29 = .ok (.bipush 13, 2) := by decide +kernel
theorem dX4_takeOff_31 : decode cX4_takeOff 31 = .ok (.iload_n 1, 1) := by decide +kernel
theorem dX4_takeOff_32 : decode cX4_takeOff 32 = .ok (.imul, 1) := by decide +kernel
theorem dX4_takeOff_33 : decode cX4_takeOff 33 = .ok (.iload_n 2, 1) := by decide +kernel
theorem dX4_takeOff_34 : decode cX4_takeOff 34 = .ok (.iadd, 1) := by decide +kernel
theorem dX4_takeOff_35 : decode cX4_takeOff 35 = .ok (.aload_n 0, 1) := by decide +kernel
theorem dX4_takeOff_36 : decode cX4_takeOff 36 = .ok (.iload_n 1, 1) := by decide +kernel
theorem dX4_takeOff_37 : decode cX4_takeOff 37 = .ok (.invokevirtual 44, 3) := by decide +kernel
theorem dX4_takeOff_40 : decode cX4_takeOff 40 = .ok (.iload_n 2, 1) := by decide +kernel
theorem dX4_takeOff_41 : decode cX4_takeOff 41 = .ok (.isub, 1) := by decide +kernel
theorem dX4_takeOff_42 : decode cX4_takeOff 42 = .ok (.invokestatic 38, 3) := by decide +kernel
theorem dX4_takeOff_45 : decode cX4_takeOff 45 = .ok (.return_, 1) := by decide +kernel
theorem dX4_forget_0 : decode cX4_forget 0 = .ok (.aload_n 0, 1) := by decide +kernel
theorem dX4_forget_1 : decode cX4_forget 1 = .ok (.iload_n 1, 1) := by decide +kernel
theorem dX4_forget_2 : decode cX4_forget 2 = .ok (.invokevirtual 44, 3) := by decide +kernel
theorem dX4_forget_5 : decode cX4_forget 5 = .ok (.aload_n 0, 1) := by decide +kernel
theorem dX4_forget_6 : decode cX4_forget 6 = .ok (.getfield 19, 3) := by decide +kernel
theorem dX4_forget_9 : decode cX4_forget 9 = .ok (.iconst 0, 1) := by decide +kernel
theorem dX4_forget_10 : decode cX4_forget 10 = .ok (.iaload, 1) := by decide +kernel
theorem dX4_forget_11 : decode cX4_forget 11 = .ok (.if_icmp .le 12, 3) := by decide +kernel
theorem dX4_forget_14 : decode cX4_forget 14 = .ok (.aload_n 0, 1) := by decide +kernel
theorem dX4_forget_15 : decode cX4_forget 15 = .ok (.iload_n 1, 1) := by decide +kernel
theorem dX4_forget_16 : decode cX4_forget 16 = .ok (.iconst 0, 1) := by decide +kernel
theorem dX4_forget_17 : decode cX4_forget 17 = .ok (.invokevirtual 47, 3) := by decide +kernel
theorem dX4_forget_20 : decode cX4_forget 20 = .ok (.goto (-20), 3) := by decide +kernel
theorem dX4_forget_23 : decode cX4_forget 23 = .ok (.return_, 1) := by decide +kernel
theorem dX4_remember_0 : decode cX4_remember 0 = .ok (.aload_n 0, 1) := by decide +kernel
theorem dX4_remember_1 : decode cX4_remember 1 = .ok (.getfield 16, 3) := by decide +kernel
theorem dX4_remember_4 : decode cX4_remember 4 = .ok (.bipush 13, 2) := by decide +kernel
theorem dX4_remember_6 : decode cX4_remember 6 = .ok (.iload_n 1, 1) := by decide +kernel
theorem dX4_remember_7 : decode cX4_remember 7 = .ok (.imul, 1) := by decide +kernel
theorem dX4_remember_8 : decode cX4_remember 8 = .ok (.aload_n 0, 1) := by decide +kernel
theorem dX4_remember_9 : decode cX4_remember 9 = .ok (.iload_n 1, 1) := by decide +kernel
theorem dX4_remember_10 : decode cX4_remember 10 = .ok (.invokevirtual 44, 3) := by decide +kernel
theorem dX4_remember_13 : decode cX4_remember 13 = .ok (.iadd, 1) := by decide +kernel
theorem dX4_remember_14 : decode cX4_remember 14 = .ok (.iload_n 2, 1) := by decide +kernel
theorem dX4_remember_15 : decode cX4_remember 15 = .ok (.iastore, 1) := by decide +kernel
theorem dX4_remember_16 : decode cX4_remember 16 = .ok (.aload_n 0, 1) := by decide +kernel
theorem dX4_remember_17 : decode cX4_remember 17 = .ok (.getfield 19, 3) := by decide +kernel
theorem dX4_remember_20 : decode cX4_remember 20 = .ok (.bipush 8, 2) := by decide +kernel
theorem dX4_remember_22 : decode cX4_remember 22 = .ok (.iload_n 1, 1) := by decide +kernel
theorem dX4_remember_23 : decode cX4_remember 23 = .ok (.iadd, 1) := by decide +kernel
theorem dX4_remember_24 : decode cX4_remember 24 = .ok (.dup2, 1) := by decide +kernel
theorem dX4_remember_25 : decode cX4_remember 25 = .ok (.iaload, 1) := by decide +kernel
theorem dX4_remember_26 : decode cX4_remember 26 = .ok (.iconst 1, 1) := by decide +kernel
theorem dX4_remember_27 : decode cX4_remember 27 = .ok (.iadd, 1) := by decide +kernel
theorem dX4_remember_28 : decode cX4_remember 28 = .ok (.iastore, 1) := by decide +kernel
theorem dX4_remember_29 : decode cX4_remember 29 = .ok (.aload_n 0, 1) := by decide +kernel
theorem dX4_remember_30 : decode cX4_remember 30 = .ok (.iload_n 1, 1) := by decide +kernel
theorem dX4_remember_31 : decode cX4_remember 31 = .ok (.invokevirtual 51, 3) := by decide +kernel
theorem dX4_remember_34 : decode cX4_remember 34 = .ok (.return_, 1) := by decide +kernel
theorem dX4_listPlace_0 : decode cX4_listPlace 0 = .ok (.iconst 0, 1) := by decide +kernel
theorem dX4_listPlace_1 : decode cX4_listPlace 1 = .ok (.istore_n 3, 1) := by decide +kernel
theorem dX4_listPlace_2 : decode cX4_listPlace 2 = .ok (.iload_n 3, 1) := by decide +kernel
theorem dX4_listPlace_3 : decode cX4_listPlace 3 = .ok (.aload_n 0, 1) := by decide +kernel
theorem dX4_listPlace_4 : decode cX4_listPlace 4 = .ok (.iload_n 1, 1) := by decide +kernel
theorem dX4_listPlace_5 : decode cX4_listPlace 5 = .ok (.invokevirtual 44, 3) := by decide +kernel
theorem dX4_listPlace_8 : decode cX4_listPlace 8 = .ok (.if_icmp .ge 21, 3) := by decide +kernel
theorem dX4_listPlace_11 : decode cX4_listPlace 11 = .ok (.aload_n 0, 1) := by decide +kernel
theorem dX4_listPlace_12 : decode cX4_listPlace 12 = .ok (.iload_n 1, 1) := by decide +kernel
theorem dX4_listPlace_13 : decode cX4_listPlace 13 = .ok (.iload_n 3, 1) := by decide +kernel
theorem dX4_listPlace_14 : decode cX4_listPlace 14 = .ok (.invokevirtual 55, 3) := by decide +kernel
theorem dX4_listPlace_17 : decode cX4_listPlace 17 = .ok (.iload_n 2, 1) := by decide +kernel
theorem dX4_listPlace_18 : decode cX4_listPlace 18 = .ok (.if_icmp .ne 5, 3) := by decide +kernel
theorem dX4_listPlace_21 : decode cX4_listPlace 21 = .ok (.iload_n 3, 1) := by decide +kernel
theorem dX4_listPlace_22 : decode cX4_listPlace 22 = .ok (.ireturn, 1) := by decide +kernel
theorem dX4_listPlace_23 : decode cX4_listPlace 23 = .ok (.iinc 3 1, 3) := by decide +kernel
theorem dX4_listPlace_26 : decode cX4_listPlace 26 = .ok (.goto (-24), 3) := by decide +kernel
theorem dX4_listPlace_29 : decode cX4_listPlace 29 = .ok (.iconst (-1), 1) := by decide +kernel
theorem dX4_listPlace_30 : decode cX4_listPlace 30 = .ok (.ireturn, 1) := by decide +kernel
theorem dX4_placeOf_0 : decode cX4_placeOf 0 = .ok (.iconst 0, 1) := by decide +kernel
theorem dX4_placeOf_1 : decode cX4_placeOf 1 = .ok (.istore_n 2, 1) := by decide +kernel
theorem dX4_placeOf_2 : decode cX4_placeOf 2 = .ok (.aload_n 0, 1) := by decide +kernel
theorem dX4_placeOf_3 : decode cX4_placeOf 3 = .ok (.aload_n 0, 1) := by decide +kernel
theorem dX4_placeOf_4 : decode cX4_placeOf 4 = .ok (.iload_n 1, 1) := by decide +kernel
theorem dX4_placeOf_5 : decode cX4_placeOf 5 = .ok (.iconst 0, 1) := by decide +kernel
theorem dX4_placeOf_6 : decode cX4_placeOf 6 = .ok (.invokevirtual 30, 3) := by decide +kernel
theorem dX4_placeOf_9 : decode cX4_placeOf 9 = .ok (.iload_n 2, 1) := by decide +kernel
theorem dX4_placeOf_10 : decode cX4_placeOf 10 = .ok (.invokevirtual 58, 3) := by decide +kernel
theorem dX4_placeOf_13 : decode cX4_placeOf 13 = .ok (.iload_n 1, 1) := by decide +kernel
theorem dX4_placeOf_14 : decode cX4_placeOf 14 = .ok (.if_icmp .eq 9, 3) := by decide +kernel
theorem dX4_placeOf_17 : decode cX4_placeOf 17 = .ok (.iinc 2 1, 3) := by decide +kernel
theorem dX4_placeOf_20 : decode cX4_placeOf 20 = .ok (.goto (-18), 3) := by decide +kernel
theorem dX4_placeOf_23 : decode cX4_placeOf 23 = .ok (.iload_n 2, 1) := by decide +kernel
theorem dX4_placeOf_24 : decode cX4_placeOf 24 = .ok (.ireturn, 1) := by decide +kernel
theorem dX4_pinned_0 : decode cX4_pinned 0 = .ok (.iconst 0, 1) := by decide +kernel
theorem dX4_pinned_1 : decode cX4_pinned 1 = .ok (.istore_n 1, 1) := by decide +kernel
theorem dX4_pinned_2 : decode cX4_pinned 2 = .ok (.iconst 0, 1) := by decide +kernel
theorem dX4_pinned_3 : decode cX4_pinned 3 = .ok (.istore_n 2, 1) := by decide +kernel
theorem dX4_pinned_4 : decode cX4_pinned 4 = .ok (.iload_n 2, 1) := by decide +kernel
theorem dX4_pinned_5 : decode cX4_pinned 5 = .ok (.bipush 40, 2) := by decide +kernel
theorem dX4_pinned_7 : decode cX4_pinned 7 = .ok (.if_icmp .ge 34, 3) := by decide +kernel
theorem dX4_pinned_10 : decode cX4_pinned 10 = .ok (.iload_n 1, 1) := by decide +kernel
theorem dX4_pinned_11 : decode cX4_pinned 11 = .ok (.aload_n 0, 1) := by decide +kernel
theorem dX4_pinned_12 : decode cX4_pinned 12 = .ok (.iload_n 2, 1) := by decide +kernel
theorem dX4_pinned_13 : decode cX4_pinned 13 = .ok (.invokevirtual 61, 3) := by decide +kernel
theorem dX4_pinned_16 : decode cX4_pinned 16 = .ok (.ifCond .eq 16, 3) := by decide +kernel
theorem dX4_pinned_19 : decode cX4_pinned 19 = .ok (.aload_n 0, 1) := by decide +kernel
theorem dX4_pinned_20 : decode cX4_pinned 20 = .ok (.iload_n 2, 1) := by decide +kernel
theorem dX4_pinned_21 : decode cX4_pinned 21 = .ok (.iconst 2, 1) := by decide +kernel
theorem dX4_pinned_22 : decode cX4_pinned 22 = .ok (.invokevirtual 30, 3) := by decide +kernel
theorem dX4_pinned_25 : decode cX4_pinned 25 = .ok (.ifCond .le 7, 3) := by decide +kernel
theorem dX4_pinned_28 : decode cX4_pinned 28 = .ok (.iconst 1, 1) := by decide +kernel
theorem dX4_pinned_29 : decode cX4_pinned 29 = .ok (.goto 4, 3) := by decide +kernel
theorem dX4_pinned_32 : decode cX4_pinned 32 = .ok (.iconst 0, 1) := by decide +kernel
theorem dX4_pinned_33 : decode cX4_pinned 33 = .ok (.iadd, 1) := by decide +kernel
theorem dX4_pinned_34 : decode cX4_pinned 34 = .ok (.istore_n 1, 1) := by decide +kernel
theorem dX4_pinned_35 : decode cX4_pinned 35 = .ok (.iinc 2 1, 3) := by decide +kernel
theorem dX4_pinned_38 : decode cX4_pinned 38 = .ok (.goto (-34), 3) := by decide +kernel
theorem dX4_pinned_41 : decode cX4_pinned 41 = .ok (.iload_n 1, 1) := by decide +kernel
theorem dX4_pinned_42 : decode cX4_pinned 42 = .ok (.ireturn, 1) := by decide +kernel
theorem dX4_canGive_0 : decode cX4_canGive 0 = .ok (.iconst 0, 1) := by decide +kernel
theorem dX4_canGive_1 : decode cX4_canGive 1 = .ok (.istore_n 2, 1) := by decide +kernel
theorem dX4_canGive_2 : decode cX4_canGive 2 = .ok (.iload_n 2, 1) := by decide +kernel
theorem dX4_canGive_3 : decode cX4_canGive 3 = .ok (.aload_n 0, 1) := by decide +kernel
theorem dX4_canGive_4 : decode cX4_canGive 4 = .ok (.iload_n 1, 1) := by decide +kernel
theorem dX4_canGive_5 : decode cX4_canGive 5 = .ok (.invokevirtual 34, 3) := by decide +kernel
theorem dX4_canGive_8 : decode cX4_canGive 8 = .ok (.if_icmp .ge 25, 3) := by decide +kernel
theorem dX4_canGive_11 : decode cX4_canGive 11 = .ok (.aload_n 0, 1) := by decide +kernel
theorem dX4_canGive_12 : decode cX4_canGive 12 = .ok (.aload_n 0, 1) := by decide +kernel
theorem dX4_canGive_13 : decode cX4_canGive 13 = .ok (.iload_n 1, 1) := by decide +kernel
theorem dX4_canGive_14 : decode cX4_canGive 14 = .ok (.iload_n 2, 1) := by decide +kernel
theorem dX4_canGive_15 : decode cX4_canGive 15 = .ok (.invokevirtual 58, 3) := by decide +kernel
theorem dX4_canGive_18 : decode cX4_canGive 18 = .ok (.iconst 2, 1) := by decide +kernel
theorem dX4_canGive_19 : decode cX4_canGive 19 = .ok (.invokevirtual 30, 3) := by decide +kernel
theorem dX4_canGive_22 : decode cX4_canGive 22 = .ok (.ifCond .ne 5, 3) := by decide +kernel
theorem dX4_canGive_25 : decode cX4_canGive 25 = .ok (.iconst 1, 1) := by decide +kernel
theorem dX4_canGive_26 : decode cX4_canGive 26 = .ok (.ireturn, 1) := by decide +kernel
theorem dX4_canGive_27 : decode cX4_canGive 27 = .ok (.iinc 2 1, 3) := by decide +kernel
theorem dX4_canGive_30 : decode cX4_canGive 30 = .ok (.goto (-28), 3) := by decide +kernel
theorem dX4_canGive_33 : decode cX4_canGive 33 = .ok (.iconst 0, 1) := by decide +kernel
theorem dX4_canGive_34 : decode cX4_canGive 34 = .ok (.ireturn, 1) := by decide +kernel
theorem dX4_sweep_0 : decode cX4_sweep 0 = .ok (.aload_n 0, 1) := by decide +kernel
theorem dX4_sweep_1 : decode cX4_sweep 1 = .ok (.iconst 0, 1) := by decide +kernel
theorem dX4_sweep_2 : decode cX4_sweep 2 = .ok (.invokevirtual 65, 3) := by decide +kernel
theorem dX4_sweep_5 : decode cX4_sweep 5 = .ok (.ifCond .eq 33, 3) := by decide +kernel
theorem dX4_sweep_8 : decode cX4_sweep 8 = .ok (.aload_n 0, 1) := by decide +kernel
theorem dX4_sweep_9 : decode cX4_sweep 9 = .ok (.iconst 0, 1) := by decide +kernel
theorem dX4_sweep_10 : decode cX4_sweep 10 = .ok (.invokevirtual 34, 3) := by decide +kernel
theorem dX4_sweep_13 : decode cX4_sweep 13 = .ok (.iconst 1, 1) := by decide +kernel
theorem dX4_sweep_14 : decode cX4_sweep 14 = .ok (.aload_n 0, 1) := by decide +kernel
theorem dX4_sweep_15 : decode cX4_sweep 15 = .ok (.getfield 19, 3) := by decide +kernel
theorem dX4_sweep_18 : decode cX4_sweep 18 = .ok (.iconst 1, 1) := by decide +kernel
theorem dX4_sweep_19 : decode cX4_sweep 19 = .ok (.iaload, 1) := by decide +kernel
theorem dX4_sweep_20 : decode cX4_sweep 20 = .ok (.invokestatic 68, 3) := by decide +kernel
theorem dX4_sweep_23 : decode cX4_sweep 23 = .ok (.if_icmp .ge 11, 3) := by decide +kernel
theorem dX4_sweep_26 : decode cX4_sweep 26 = .ok (.aload_n 0, 1) := by decide +kernel
theorem dX4_sweep_27 : decode cX4_sweep 27 = .ok (.iconst 1, 1) := by decide +kernel
theorem dX4_sweep_28 : decode cX4_sweep 28 = .ok (.invokevirtual 65, 3) := by decide +kernel
theorem dX4_sweep_31 : decode cX4_sweep 31 = .ok (.ifCond .ne 7, 3) := by decide +kernel
theorem dX4_sweep_34 : decode cX4_sweep 34 = .ok (.iconst 1, 1) := by decide +kernel
theorem dX4_sweep_35 : decode cX4_sweep 35 = .ok (.goto 4, 3) := by decide +kernel
theorem dX4_sweep_38 : decode cX4_sweep 38 = .ok (.iconst 0, 1) := by decide +kernel
theorem dX4_sweep_39 : decode cX4_sweep 39 = .ok (.istore_n 1, 1) := by decide +kernel
theorem dX4_sweep_40 : decode cX4_sweep 40 = .ok (.iload_n 1, 1) := by decide +kernel
theorem dX4_sweep_41 : decode cX4_sweep 41 = .ok (.ifCond .eq 7, 3) := by decide +kernel
theorem dX4_sweep_44 : decode cX4_sweep 44 = .ok (.iconst 0, 1) := by decide +kernel
theorem dX4_sweep_45 : decode cX4_sweep 45 = .ok (.goto 4, 3) := by decide +kernel
theorem dX4_sweep_48 : decode cX4_sweep 48 = .ok (.iconst 1, 1) := by decide +kernel
theorem dX4_sweep_49 : decode cX4_sweep 49 = .ok (.istore_n 2, 1) := by decide +kernel
theorem dX4_sweep_50 : decode cX4_sweep 50 = .ok (.aload_n 0, 1) := by decide +kernel
theorem dX4_sweep_51 : decode cX4_sweep 51 = .ok (.iload_n 2, 1) := by decide +kernel
theorem dX4_sweep_52 : decode cX4_sweep 52 = .ok (.iconst 0, 1) := by decide +kernel
theorem dX4_sweep_53 : decode cX4_sweep 53 = .ok (.invokevirtual 58, 3) := by decide +kernel
theorem dX4_sweep_56 : decode cX4_sweep 56 = .ok (.istore_n 3, 1) := by decide +kernel
theorem dX4_sweep_57 : decode cX4_sweep 57 = .ok (.aload_n 0, 1) := by decide +kernel
theorem dX4_sweep_58 : decode cX4_sweep 58 = .ok (.iload_n 2, 1) := by decide +kernel
theorem dX4_sweep_59 : decode cX4_sweep 59 = .ok (.iconst 0, 1) := by decide +kernel
theorem dX4_sweep_60 : decode cX4_sweep 60 = .ok (.invokevirtual 73, 3) := by decide +kernel
theorem dX4_sweep_63 : decode cX4_sweep 63 = .ok (.aload_n 0, 1) := by decide +kernel
theorem dX4_sweep_64 : decode cX4_sweep 64 = .ok (.getfield 19, 3) := by decide +kernel
theorem dX4_sweep_67 : decode cX4_sweep 67 = .ok (.iconst 5, 1) := by decide +kernel
theorem dX4_sweep_68 : decode cX4_sweep 68 = .ok (.dup2, 1) := by decide +kernel
theorem dX4_sweep_69 : decode cX4_sweep 69 = .ok (.iaload, 1) := by decide +kernel
theorem dX4_sweep_70 : decode cX4_sweep 70 = .ok (.iconst 1, 1) := by decide +kernel
theorem dX4_sweep_71 : decode cX4_sweep 71 = .ok (.iadd, 1) := by decide +kernel
theorem dX4_sweep_72 : decode cX4_sweep 72 = .ok (.iastore, 1) := by decide +kernel
theorem dX4_sweep_73 : decode cX4_sweep 73 = .ok (.aload_n 0, 1) := by decide +kernel
theorem dX4_sweep_74 : decode cX4_sweep 74 = .ok (.iload_n 3, 1) := by decide +kernel
theorem dX4_sweep_75 : decode cX4_sweep 75 = .ok (.iconst 2, 1) := by decide +kernel
theorem dX4_sweep_76 : decode cX4_sweep 76 = .ok (.invokevirtual 30, 3) := by decide +kernel
theorem dX4_sweep_79 : decode cX4_sweep 79 = .ok (.ifCond .le 12, 3) := by decide +kernel
theorem dX4_sweep_82 : decode cX4_sweep 82 = .ok (.aload_n 0, 1) := by decide +kernel
theorem dX4_sweep_83 : decode cX4_sweep 83 = .ok (.iload_n 2, 1) := by decide +kernel
theorem dX4_sweep_84 : decode cX4_sweep 84 = .ok (.iload_n 3, 1) := by decide +kernel
theorem dX4_sweep_85 : decode cX4_sweep 85 = .ok (.invokevirtual 76, 3) := by decide +kernel
theorem dX4_sweep_88 : decode cX4_sweep 88 = .ok (.goto 52, 3) := by decide +kernel
theorem dX4_sweep_91 : decode cX4_sweep 91 = .ok (.aload_n 0, 1) := by decide +kernel
theorem dX4_sweep_92 : decode cX4_sweep 92 = .ok (.iload_n 3, 1) := by decide +kernel
theorem dX4_sweep_93 : decode cX4_sweep 93 = .ok (.iconst 1, 1) := by decide +kernel
theorem dX4_sweep_94 : decode cX4_sweep 94 = .ok (.invokevirtual 30, 3) := by decide +kernel
theorem dX4_sweep_97 : decode cX4_sweep 97 = .ok (.iconst 1, 1) := by decide +kernel
theorem dX4_sweep_98 : decode cX4_sweep 98 = .ok (.if_icmp .ne 23, 3) := by decide +kernel
theorem dX4_sweep_101 : decode cX4_sweep 101 = .ok (.aload_n 0, 1) := by decide +kernel
theorem dX4_sweep_102 : decode cX4_sweep 102 = .ok (.getfield 9, 3) := by decide +kernel
theorem dX4_sweep_105 : decode cX4_sweep 105 = .ok (.iconst 4, 1) := by decide +kernel
theorem dX4_sweep_106 : decode cX4_sweep 106 = .ok (.iload_n 3, 1) := by decide +kernel
theorem dX4_sweep_107 : decode cX4_sweep 107 = .ok (.imul, 1) := by decide +kernel
theorem dX4_sweep_108 : decode cX4_sweep 108 = .ok (.iconst 1, 1) := by decide +kernel
theorem dX4_sweep_109 : decode cX4_sweep 109 = .ok (.iadd, 1) := by decide +kernel
theorem dX4_sweep_110 : decode cX4_sweep 110 = .ok (.iconst 0, 1) := by decide +kernel
theorem dX4_sweep_111 : decode cX4_sweep 111 = .ok (.iastore, 1) := by decide +kernel
theorem dX4_sweep_112 : decode cX4_sweep 112 = .ok (.aload_n 0, 1) := by decide +kernel
theorem dX4_sweep_113 : decode cX4_sweep 113 = .ok (.iconst 1, 1) := by decide +kernel
theorem dX4_sweep_114 : decode cX4_sweep 114 = .ok (.iload_n 3, 1) := by decide +kernel
theorem dX4_sweep_115 : decode cX4_sweep 115 = .ok (.invokevirtual 76, 3) := by decide +kernel
theorem dX4_sweep_118 : decode cX4_sweep 118 = .ok (.goto 22, 3) := by decide +kernel
theorem dX4_sweep_121 : decode cX4_sweep 121 = .ok (.aload_n 0, 1) := by decide +kernel
theorem dX4_sweep_122 : decode cX4_sweep 122 = .ok (.getfield 9, 3) := by decide +kernel
theorem dX4_sweep_125 : decode cX4_sweep 125 = .ok (.iconst 4, 1) := by decide +kernel
theorem dX4_sweep_126 : decode cX4_sweep 126 = .ok (.iload_n 3, 1) := by decide +kernel
theorem dX4_sweep_127 : decode cX4_sweep 127 = .ok (.imul, 1) := by decide +kernel
theorem dX4_sweep_128 : decode cX4_sweep 128 = .ok (.iconst 0, 1) := by decide +kernel
theorem dX4_sweep_129 : decode cX4_sweep 129 = .ok (.iadd, 1) := by decide +kernel
theorem dX4_sweep_130 : decode cX4_sweep 130 = .ok (.iconst (-1), 1) := by decide +kernel
theorem dX4_sweep_131 : decode cX4_sweep 131 = .ok (.iastore, 1) := by decide +kernel
theorem dX4_sweep_132 : decode cX4_sweep 132 = .ok (.aload_n 0, 1) := by decide +kernel
theorem dX4_sweep_133 : decode cX4_sweep 133 = .ok (.iload_n 2, 1) := by decide +kernel
theorem dX4_sweep_134 : decode cX4_sweep 134 = .ok (.iload_n 3, 1) := by decide +kernel
theorem dX4_sweep_135 : decode cX4_sweep 135 = .ok (.invokevirtual 79, 3) := by decide +kernel
theorem dX4_sweep_138 : decode cX4_sweep 138 = .ok (.iload_n 3, 1) := by decide +kernel
theorem dX4_sweep_139 : decode cX4_sweep 139 = .ok (.ireturn, 1) := by decide +kernel
theorem dX4_sweep_140 : decode cX4_sweep 140 = .ok (.goto (-140), 3) := by decide +kernel
theorem dX4_canFetch_0 : decode cX4_canFetch 0 = .ok (.aload_n 0, 1) := by decide +kernel
theorem dX4_canFetch_1 : decode cX4_canFetch 1 = .ok (.iload_n 1, 1) := by decide +kernel
theorem dX4_canFetch_2 : decode cX4_canFetch 2 = .ok (.invokevirtual 61, 3) := by decide +kernel
theorem dX4_canFetch_5 : decode cX4_canFetch 5 = .ok (.ifCond .ne 27, 3) := by decide +kernel
theorem dX4_canFetch_8 : decode cX4_canFetch 8 = .ok (.aload_n 0, 1) := by decide +kernel
theorem dX4_canFetch_9 : decode cX4_canFetch 9 = .ok (.invokevirtual 82, 3) := by decide +kernel
theorem dX4_canFetch_12 : decode cX4_canFetch 12 = .ok (.aload_n 0, 1) := by decide +kernel
theorem dX4_canFetch_13 : decode cX4_canFetch 13 = .ok (.getfield 19, 3) := by decide +kernel
theorem dX4_canFetch_16 : decode cX4_canFetch 16 = .ok (.iconst 0, 1) := by decide +kernel
theorem dX4_canFetch_17 : decode cX4_canFetch 17 = .ok (.iaload, 1) := by decide +kernel
theorem dX4_canFetch_18 : decode cX4_canFetch 18 = .ok (.if_icmp .lt 14, 3) := by decide +kernel
theorem dX4_canFetch_21 : decode cX4_canFetch 21 = .ok (.aload_n 0, 1) := by decide +kernel
theorem dX4_canFetch_22 : decode cX4_canFetch 22 = .ok (.invokevirtual 86, 3) := by decide +kernel
theorem dX4_canFetch_25 : decode cX4_canFetch 25 = .ok (.aload_n 0, 1) := by decide +kernel
theorem dX4_canFetch_26 : decode cX4_canFetch 26 = .ok (.invokevirtual 82, 3) := by decide +kernel
theorem dX4_canFetch_29 : decode cX4_canFetch 29 = .ok (.if_icmp .ge 7, 3) := by decide +kernel
theorem dX4_canFetch_32 : decode cX4_canFetch 32 = .ok (.iconst 1, 1) := by decide +kernel
theorem dX4_canFetch_33 : decode cX4_canFetch 33 = .ok (.goto 4, 3) := by decide +kernel
theorem dX4_canFetch_36 : decode cX4_canFetch 36 = .ok (.iconst 0, 1) := by decide +kernel
theorem dX4_canFetch_37 : decode cX4_canFetch 37 = .ok (.ireturn, 1) := by decide +kernel
theorem dX4_listOf_0 : decode cX4_listOf 0 = .ok (.aload_n 0, 1) := by decide +kernel
theorem dX4_listOf_1 : decode cX4_listOf 1 = .ok (.iconst 0, 1) := by decide +kernel
theorem dX4_listOf_2 : decode cX4_listOf 2 = .ok (.iload_n 1, 1) := by decide +kernel
theorem dX4_listOf_3 : decode cX4_listOf 3 = .ok (.invokevirtual 89, 3) := by decide +kernel
theorem dX4_listOf_6 : decode cX4_listOf 6 = .ok (.iconst (-1), 1) := by decide +kernel
theorem dX4_listOf_7 : decode cX4_listOf 7 = .ok (.if_icmp .eq 7, 3) := by decide +kernel
theorem dX4_listOf_10 : decode cX4_listOf 10 = .ok (.iconst 0, 1) := by decide +kernel
theorem dX4_listOf_11 : decode cX4_listOf 11 = .ok (.goto 18, 3) := by decide +kernel
theorem dX4_listOf_14 : decode cX4_listOf 14 = .ok (.aload_n 0, 1) := by decide +kernel
theorem dX4_listOf_15 : decode cX4_listOf 15 = .ok (.iconst 1, 1) := by decide +kernel
theorem dX4_listOf_16 : decode cX4_listOf 16 = .ok (.iload_n 1, 1) := by decide +kernel
theorem dX4_listOf_17 : decode cX4_listOf 17 = .ok (.invokevirtual 89, 3) := by decide +kernel
theorem dX4_listOf_20 : decode cX4_listOf 20 = .ok (.iconst (-1), 1) := by decide +kernel
theorem dX4_listOf_21 : decode cX4_listOf 21 = .ok (.if_icmp .eq 7, 3) := by decide +kernel
theorem dX4_listOf_24 : decode cX4_listOf 24 = .ok (.iconst 1, 1) := by decide +kernel
theorem dX4_listOf_25 : decode cX4_listOf 25 = .ok (.goto 4, 3) := by decide +kernel
theorem dX4_listOf_28 : decode cX4_listOf 28 = .ok (.iconst (-1), 1) := by decide +kernel
theorem dX4_listOf_29 : decode cX4_listOf 29 = .ok (.ireturn, 1) := by decide +kernel
theorem dX4_told_0 : decode cX4_told 0 = .ok (.aload_n 0, 1) := by decide +kernel
theorem dX4_told_1 : decode cX4_told 1 = .ok (.iload_n 1, 1) := by decide +kernel
theorem dX4_told_2 : decode cX4_told 2 = .ok (.invokevirtual 61, 3) := by decide +kernel
theorem dX4_told_5 : decode cX4_told 5 = .ok (.ifCond .eq 7, 3) := by decide +kernel
theorem dX4_told_8 : decode cX4_told 8 = .ok (.iconst 0, 1) := by decide +kernel
theorem dX4_told_9 : decode cX4_told 9 = .ok (.goto 10, 3) := by decide +kernel
theorem dX4_told_12 : decode cX4_told 12 = .ok (.iconst 2, 1) := by decide +kernel
theorem dX4_told_13 : decode cX4_told 13 = .ok (.aload_n 0, 1) := by decide +kernel
theorem dX4_told_14 : decode cX4_told 14 = .ok (.iload_n 1, 1) := by decide +kernel
theorem dX4_told_15 : decode cX4_told 15 = .ok (.invokevirtual 92, 3) := by decide +kernel
theorem dX4_told_18 : decode cX4_told 18 = .ok (.iadd, 1) := by decide +kernel
theorem dX4_told_19 : decode cX4_told 19 = .ok (.ireturn, 1) := by decide +kernel
theorem dX4_fetched_0 : decode cX4_fetched 0 = .ok (.aload_n 0, 1) := by decide +kernel
theorem dX4_fetched_1 : decode cX4_fetched 1 = .ok (.iload_n 1, 1) := by decide +kernel
theorem dX4_fetched_2 : decode cX4_fetched 2 = .ok (.invokevirtual 61, 3) := by decide +kernel
theorem dX4_fetched_5 : decode cX4_fetched 5 = .ok (.ifCond .eq 40, 3) := by decide +kernel
theorem dX4_fetched_8 : decode cX4_fetched 8 = .ok (.aload_n 0, 1) := by decide +kernel
theorem dX4_fetched_9 : decode cX4_fetched 9 = .ok (.getfield 9, 3) := by decide +kernel
theorem dX4_fetched_12 : decode cX4_fetched 12 = .ok (.iconst 4, 1) := by decide +kernel
theorem dX4_fetched_13 : decode cX4_fetched 13 = .ok (.iload_n 1, 1) := by decide +kernel
theorem dX4_fetched_14 : decode cX4_fetched 14 = .ok (.imul, 1) := by decide +kernel
theorem dX4_fetched_15 : decode cX4_fetched 15 = .ok (.iconst 1, 1) := by decide +kernel
theorem dX4_fetched_16 : decode cX4_fetched 16 = .ok (.iadd, 1) := by decide +kernel
theorem dX4_fetched_17 : decode cX4_fetched 17 = .ok (.iconst 1, 1) := by decide +kernel
theorem dX4_fetched_18 : decode cX4_fetched 18 = .ok (.iastore, 1) := by decide +kernel
theorem dX4_fetched_19 : decode cX4_fetched 19 = .ok (.aload_n 0, 1) := by decide +kernel
theorem dX4_fetched_20 : decode cX4_fetched 20 = .ok (.getfield 9, 3) := by decide +kernel
theorem dX4_fetched_23 : decode cX4_fetched 23 = .ok (.iconst 4, 1) := by decide +kernel
theorem dX4_fetched_24 : decode cX4_fetched 24 = .ok (.iload_n 1, 1) := by decide +kernel
theorem dX4_fetched_25 : decode cX4_fetched 25 = .ok (.imul, 1) := by decide +kernel
theorem dX4_fetched_26 : decode cX4_fetched 26 = .ok (.iconst 3, 1) := by decide +kernel
theorem dX4_fetched_27 : decode cX4_fetched 27 = .ok (.iadd, 1) := by decide +kernel
theorem dX4_fetched_28 : decode cX4_fetched 28 = .ok (.dup2, 1) := by decide +kernel
theorem dX4_fetched_29 : decode cX4_fetched 29 = .ok (.iaload, 1) := by decide +kernel
theorem dX4_fetched_30 : decode cX4_fetched 30 = .ok (.iconst 1, 1) := by decide +kernel
theorem dX4_fetched_31 : decode cX4_fetched 31 = .ok (.iadd, 1) := by decide +kernel
theorem dX4_fetched_32 : decode cX4_fetched 32 = .ok (.iastore, 1) := by decide +kernel
theorem dX4_fetched_33 : decode cX4_fetched 33 = .ok (.aload_n 0, 1) := by decide +kernel
theorem dX4_fetched_34 : decode cX4_fetched 34 = .ok (.getfield 19, 3) := by decide +kernel
theorem dX4_fetched_37 : decode cX4_fetched 37 = .ok (.iconst 2, 1) := by decide +kernel
theorem dX4_fetched_38 : decode cX4_fetched 38 = .ok (.dup2, 1) := by decide +kernel
theorem dX4_fetched_39 : decode cX4_fetched 39 = .ok (.iaload, 1) := by decide +kernel
theorem dX4_fetched_40 : decode cX4_fetched 40 = .ok (.iconst 1, 1) := by decide +kernel
theorem dX4_fetched_41 : decode cX4_fetched 41 = .ok (.iadd, 1) := by decide +kernel
theorem dX4_fetched_42 : decode cX4_fetched 42 = .ok (.iastore, 1) := by decide +kernel
theorem dX4_fetched_43 : decode cX4_fetched 43 = .ok (.iconst 0, 1) := by decide +kernel
theorem dX4_fetched_44 : decode cX4_fetched 44 = .ok (.ireturn, 1) := by decide +kernel
theorem dX4_fetched_45 : decode cX4_fetched 45 = .ok (.aload_n 0, 1) := by decide +kernel
theorem dX4_fetched_46 : decode cX4_fetched 46 = .ok (.iload_n 1, 1) := by decide +kernel
theorem dX4_fetched_47 : decode cX4_fetched 47 = .ok (.invokevirtual 92, 3) := by decide +kernel
theorem dX4_fetched_50 : decode cX4_fetched 50 = .ok (.istore_n 2, 1) := by decide +kernel
theorem dX4_fetched_51 : decode cX4_fetched 51 = .ok (.aload_n 0, 1) := by decide +kernel
theorem dX4_fetched_52 : decode cX4_fetched 52 = .ok (.getfield 19, 3) := by decide +kernel
theorem dX4_fetched_55 : decode cX4_fetched 55 = .ok (.iconst 3, 1) := by decide +kernel
theorem dX4_fetched_56 : decode cX4_fetched 56 = .ok (.dup2, 1) := by decide +kernel
theorem dX4_fetched_57 : decode cX4_fetched 57 = .ok (.iaload, 1) := by decide +kernel
theorem dX4_fetched_58 : decode cX4_fetched 58 = .ok (.iconst 1, 1) := by decide +kernel
theorem dX4_fetched_59 : decode cX4_fetched 59 = .ok (.iadd, 1) := by decide +kernel
theorem dX4_fetched_60 : decode cX4_fetched 60 = .ok (.iastore, 1) := by decide +kernel
theorem dX4_fetched_61 : decode cX4_fetched 61 = .ok (.iload_n 2, 1) := by decide +kernel
theorem dX4_fetched_62 : decode cX4_fetched 62 = .ok (.iconst (-1), 1) := by decide +kernel
theorem dX4_fetched_63 : decode cX4_fetched 63 = .ok (.if_icmp .eq 84, 3) := by decide +kernel
theorem dX4_fetched_66 : decode cX4_fetched 66 = .ok (.iconst 1, 1) := by decide +kernel
theorem dX4_fetched_67 : decode cX4_fetched 67 = .ok (.aload_n 0, 1) := by decide +kernel
theorem dX4_fetched_68 : decode cX4_fetched 68 = .ok (.iconst 1, 1) := by decide +kernel
theorem dX4_fetched_69 : decode cX4_fetched 69 = .ok (.iload_n 2, 1) := by decide +kernel
theorem dX4_fetched_70 : decode cX4_fetched 70 = .ok (.isub, 1) := by decide +kernel
theorem dX4_fetched_71 : decode cX4_fetched 71 = .ok (.invokevirtual 44, 3) := by decide +kernel
theorem dX4_fetched_74 : decode cX4_fetched 74 = .ok (.aload_n 0, 1) := by decide +kernel
theorem dX4_fetched_75 : decode cX4_fetched 75 = .ok (.iload_n 2, 1) := by decide +kernel
theorem dX4_fetched_76 : decode cX4_fetched 76 = .ok (.invokevirtual 44, 3) := by decide +kernel
theorem dX4_fetched_79 : decode cX4_fetched 79 = .ok (.idiv, 1) := by decide +kernel
theorem dX4_fetched_80 : decode cX4_fetched 80 = .ok (.invokestatic 68, 3) := by decide +kernel
theorem dX4_fetched_83 : decode cX4_fetched 83 = .ok (.istore_n 3, 1) := by decide +kernel
theorem dX4_fetched_84 : decode cX4_fetched 84 = .ok (.aload_n 0, 1) := by decide +kernel
theorem dX4_fetched_85 : decode cX4_fetched 85 = .ok (.getfield 19, 3) := by decide +kernel
theorem dX4_fetched_88 : decode cX4_fetched 88 = .ok (.iconst 1, 1) := by decide +kernel
theorem dX4_fetched_89 : decode cX4_fetched 89 = .ok (.iload_n 2, 1) := by decide +kernel
theorem dX4_fetched_90 : decode cX4_fetched 90 = .ok (.ifCond .ne 23, 3) := by decide +kernel
theorem dX4_fetched_93 : decode cX4_fetched 93 = .ok (.aload_n 0, 1) := by decide +kernel
theorem dX4_fetched_94 : decode cX4_fetched 94 = .ok (.getfield 19, 3) := by decide +kernel
theorem dX4_fetched_97 : decode cX4_fetched 97 = .ok (.iconst 0, 1) := by decide +kernel
theorem dX4_fetched_98 : decode cX4_fetched 98 = .ok (.iaload, 1) := by decide +kernel
theorem dX4_fetched_99 : decode cX4_fetched 99 = .ok (.aload_n 0, 1) := by decide +kernel
theorem dX4_fetched_100 : decode cX4_fetched 100 = .ok (.getfield 19, 3) := by decide +kernel
theorem dX4_fetched_103 : decode cX4_fetched 103 = .ok (.iconst 1, 1) := by decide +kernel
theorem dX4_fetched_104 : decode cX4_fetched 104 = .ok (.iaload, 1) := by decide +kernel
theorem dX4_fetched_105 : decode cX4_fetched 105 = .ok (.iload_n 3, 1) := by decide +kernel
theorem dX4_fetched_106 : decode cX4_fetched 106 = .ok (.iadd, 1) := by decide +kernel
theorem dX4_fetched_107 : decode cX4_fetched 107 = .ok (.invokestatic 95, 3) := by decide +kernel
theorem dX4_fetched_110 : decode cX4_fetched 110 = .ok (.goto 15, 3) := by decide +kernel
theorem dX4_fetched_113 : decode cX4_fetched 113 = .ok (.iconst 0, 1) := by decide +kernel
theorem dX4_fetched_114 : decode cX4_fetched 114 = .ok (.aload_n 0, 1) := by decide +kernel
theorem dX4_fetched_115 : decode cX4_fetched 115 = .ok (.getfield 19, 3) := by decide +kernel
theorem dX4_fetched_118 : decode cX4_fetched 118 = .ok (.iconst 1, 1) := by decide +kernel
theorem dX4_fetched_119 : decode cX4_fetched 119 = .ok (.iaload, 1) := by decide +kernel
theorem dX4_fetched_120 : decode cX4_fetched 120 = .ok (.iload_n 3, 1) := by decide +kernel
theorem dX4_fetched_121 : decode cX4_fetched 121 = .ok (.isub, 1) := by decide +kernel
theorem dX4_fetched_122 : decode cX4_fetched 122 = .ok (.invokestatic 68, 3) := by decide +kernel
theorem dX4_fetched_125 : decode cX4_fetched 125 = .ok (.iastore, 1) := by decide +kernel
theorem dX4_fetched_126 : decode cX4_fetched 126 = .ok (.aload_n 0, 1) := by decide +kernel
theorem dX4_fetched_127 : decode cX4_fetched 127 = .ok (.iload_n 2, 1) := by decide +kernel
theorem dX4_fetched_128 : decode cX4_fetched 128 = .ok (.aload_n 0, 1) := by decide +kernel
theorem dX4_fetched_129 : decode cX4_fetched 129 = .ok (.iload_n 2, 1) := by decide +kernel
theorem dX4_fetched_130 : decode cX4_fetched 130 = .ok (.iload_n 1, 1) := by decide +kernel
theorem dX4_fetched_131 : decode cX4_fetched 131 = .ok (.invokevirtual 89, 3) := by decide +kernel
theorem dX4_fetched_134 : decode cX4_fetched 134 = .ok (.invokevirtual 47, 3) := by decide +kernel
theorem dX4_fetched_137 : decode cX4_fetched 137 = .ok (.aload_n 0, 1) := by decide +kernel
theorem dX4_fetched_138 : decode cX4_fetched 138 = .ok (.getfield 19, 3) := by decide +kernel
theorem dX4_fetched_141 : decode cX4_fetched 141 = .ok (.iconst 4, 1) := by decide +kernel
theorem dX4_fetched_142 : decode cX4_fetched 142 = .ok (.dup2, 1) := by decide +kernel
theorem dX4_fetched_143 : decode cX4_fetched 143 = .ok (.iaload, 1) := by decide +kernel
theorem dX4_fetched_144 : decode cX4_fetched 144 = .ok (.iconst 1, 1) := by decide +kernel
theorem dX4_fetched_145 : decode cX4_fetched 145 = .ok (.iadd, 1) := by decide +kernel
theorem dX4_fetched_146 : decode cX4_fetched 146 = .ok (.iastore, 1) := by decide +kernel
theorem dX4_fetched_147 : decode cX4_fetched 147 = .ok (.aload_n 0, 1) := by decide +kernel
theorem dX4_fetched_148 : decode cX4_fetched 148 = .ok (.invokevirtual 82, 3) := by decide +kernel
theorem dX4_fetched_151 : decode cX4_fetched 151 = .ok (.aload_n 0, 1) := by decide +kernel
theorem dX4_fetched_152 : decode cX4_fetched 152 = .ok (.getfield 19, 3) := by decide +kernel
theorem dX4_fetched_155 : decode cX4_fetched 155 = .ok (.iconst 0, 1) := by decide +kernel
theorem dX4_fetched_156 : decode cX4_fetched 156 = .ok (.iaload, 1) := by decide +kernel
theorem dX4_fetched_157 : decode cX4_fetched 157 = .ok (.if_icmp .ne 8, 3) := by decide +kernel
theorem dX4_fetched_160 : decode cX4_fetched 160 = .ok (.aload_n 0, 1) := by decide +kernel
theorem dX4_fetched_161 : decode cX4_fetched 161 = .ok (.invokevirtual 98, 3) := by decide +kernel
theorem dX4_fetched_164 : decode cX4_fetched 164 = .ok (.pop, 1) := by decide +kernel
theorem dX4_fetched_165 : decode cX4_fetched 165 = .ok (.iconst 4, 1) := by decide +kernel
theorem dX4_fetched_166 : decode cX4_fetched 166 = .ok (.newarray .int, 2) := by decide +kernel
theorem dX4_fetched_168 : decode cX4_fetched 168 = .ok (.dup, 1) := by decide +kernel
theorem dX4_fetched_169 : decode cX4_fetched 169 = .ok (.iconst 0, 1) := by decide +kernel
theorem dX4_fetched_170 : decode cX4_fetched 170 = .ok (.iconst (-1), 1) := by decide +kernel
theorem dX4_fetched_171 : decode cX4_fetched 171 = .ok (.iastore, 1) := by decide +kernel
theorem dX4_fetched_172 : decode cX4_fetched 172 = .ok (.dup, 1) := by decide +kernel
theorem dX4_fetched_173 : decode cX4_fetched 173 = .ok (.iconst 1, 1) := by decide +kernel
theorem dX4_fetched_174 : decode cX4_fetched 174 = .ok (.iconst 0, 1) := by decide +kernel
theorem dX4_fetched_175 : decode cX4_fetched 175 = .ok (.iastore, 1) := by decide +kernel
theorem dX4_fetched_176 : decode cX4_fetched 176 = .ok (.dup, 1) := by decide +kernel
theorem dX4_fetched_177 : decode cX4_fetched 177 = .ok (.iconst 2, 1) := by decide +kernel
theorem dX4_fetched_178 : decode cX4_fetched 178 = .ok (.iconst 0, 1) := by decide +kernel
theorem dX4_fetched_179 : decode cX4_fetched 179 = .ok (.iastore, 1) := by decide +kernel
theorem dX4_fetched_180 : decode cX4_fetched 180 = .ok (.dup, 1) := by decide +kernel
theorem dX4_fetched_181 : decode cX4_fetched 181 = .ok (.iconst 3, 1) := by decide +kernel
theorem dX4_fetched_182 : decode cX4_fetched 182 = .ok (.iconst 1, 1) := by decide +kernel
theorem dX4_fetched_183 : decode cX4_fetched 183 = .ok (.iastore, 1) := by decide +kernel
theorem dX4_fetched_184 : decode cX4_fetched 184 = .ok (.astore_n 3, 1) := by decide +kernel
theorem dX4_fetched_185 : decode cX4_fetched 185 = .ok (.aload_n 3, 1) := by decide +kernel
theorem dX4_fetched_186 : decode cX4_fetched 186 = .ok (.iconst 0, 1) := by decide +kernel
theorem dX4_fetched_187 : decode cX4_fetched 187 = .ok (.aload_n 0, 1) := by decide +kernel
theorem dX4_fetched_188 : decode cX4_fetched 188 = .ok (.getfield 9, 3) := by decide +kernel
theorem dX4_fetched_191 : decode cX4_fetched 191 = .ok (.iconst 4, 1) := by decide +kernel
theorem dX4_fetched_192 : decode cX4_fetched 192 = .ok (.iload_n 1, 1) := by decide +kernel
theorem dX4_fetched_193 : decode cX4_fetched 193 = .ok (.imul, 1) := by decide +kernel
theorem dX4_fetched_194 : decode cX4_fetched 194 = .ok (.iconst 4, 1) := by decide +kernel
theorem dX4_fetched_195 : decode cX4_fetched 195 = .ok (.invokestatic 38, 3) := by decide +kernel
theorem dX4_fetched_198 : decode cX4_fetched 198 = .ok (.aload_n 0, 1) := by decide +kernel
theorem dX4_fetched_199 : decode cX4_fetched 199 = .ok (.iload_n 2, 1) := by decide +kernel
theorem dX4_fetched_200 : decode cX4_fetched 200 = .ok (.iconst (-1), 1) := by decide +kernel
theorem dX4_fetched_201 : decode cX4_fetched 201 = .ok (.if_icmp .ne 7, 3) := by decide +kernel
theorem dX4_fetched_204 : decode cX4_fetched 204 = .ok (.iconst 0, 1) := by decide +kernel
theorem dX4_fetched_205 : decode cX4_fetched 205 = .ok (.goto 4, 3) := by decide +kernel
theorem dX4_fetched_208 : decode cX4_fetched 208 = .ok (.iconst 1, 1) := by decide +kernel
theorem dX4_fetched_209 : decode cX4_fetched 209 = .ok (.iload_n 1, 1) := by decide +kernel
theorem dX4_fetched_210 : decode cX4_fetched 210 = .ok (.invokevirtual 76, 3) := by decide +kernel
theorem dX4_fetched_213 : decode cX4_fetched 213 = .ok (.iconst 2, 1) := by decide +kernel
theorem dX4_fetched_214 : decode cX4_fetched 214 = .ok (.iload_n 2, 1) := by decide +kernel
theorem dX4_fetched_215 : decode cX4_fetched 215 = .ok (.iadd, 1) := by decide +kernel
theorem dX4_fetched_216 : decode cX4_fetched 216 = .ok (.ireturn, 1) := by decide +kernel
theorem dX4_fetch_0 : decode cX4_fetch 0 = .ok (.aload_n 0, 1) := by decide +kernel
theorem dX4_fetch_1 : decode cX4_fetch 1 = .ok (.iconst 0, 1) := by decide +kernel
theorem dX4_fetch_2 : decode cX4_fetch 2 = .ok (.putfield 22, 3) := by decide +kernel
theorem dX4_fetch_5 : decode cX4_fetch 5 = .ok (.iload_n 1, 1) := by decide +kernel
theorem dX4_fetch_6 : decode cX4_fetch 6 = .ok (.invokestatic 101, 3) := by decide +kernel
theorem dX4_fetch_9 : decode cX4_fetch 9 = .ok (.ifCond .ne 9, 3) := by decide +kernel
theorem dX4_fetch_12 : decode cX4_fetch 12 = .ok (.aload_n 0, 1) := by decide +kernel
theorem dX4_fetch_13 : decode cX4_fetch 13 = .ok (.iconst 1, 1) := by decide +kernel
theorem dX4_fetch_14 : decode cX4_fetch 14 = .ok (.invokevirtual 104, 3) := by decide +kernel
theorem dX4_fetch_17 : decode cX4_fetch 17 = .ok (.ireturn, 1) := by decide +kernel
theorem dX4_fetch_18 : decode cX4_fetch 18 = .ok (.aload_n 0, 1) := by decide +kernel
theorem dX4_fetch_19 : decode cX4_fetch 19 = .ok (.iload_n 1, 1) := by decide +kernel
theorem dX4_fetch_20 : decode cX4_fetch 20 = .ok (.invokevirtual 107, 3) := by decide +kernel
theorem dX4_fetch_23 : decode cX4_fetch 23 = .ok (.ifCond .eq 11, 3) := by decide +kernel
theorem dX4_fetch_26 : decode cX4_fetch 26 = .ok (.aload_n 0, 1) := by decide +kernel
theorem dX4_fetch_27 : decode cX4_fetch 27 = .ok (.iload_n 1, 1) := by decide +kernel
theorem dX4_fetch_28 : decode cX4_fetch 28 = .ok (.invokevirtual 110, 3) := by decide +kernel
theorem dX4_fetch_31 : decode cX4_fetch 31 = .ok (.goto 8, 3) := by decide +kernel
theorem dX4_fetch_34 : decode cX4_fetch 34 = .ok (.aload_n 0, 1) := by decide +kernel
theorem dX4_fetch_35 : decode cX4_fetch 35 = .ok (.iconst 2, 1) := by decide +kernel
theorem dX4_fetch_36 : decode cX4_fetch 36 = .ok (.invokevirtual 104, 3) := by decide +kernel
theorem dX4_fetch_39 : decode cX4_fetch 39 = .ok (.ireturn, 1) := by decide +kernel
theorem dX4_hits_0 : decode cX4_hits 0 = .ok (.aload_n 0, 1) := by decide +kernel
theorem dX4_hits_1 : decode cX4_hits 1 = .ok (.getfield 19, 3) := by decide +kernel
theorem dX4_hits_4 : decode cX4_hits 4 = .ok (.iconst 2, 1) := by decide +kernel
theorem dX4_hits_5 : decode cX4_hits 5 = .ok (.iaload, 1) := by decide +kernel
theorem dX4_hits_6 : decode cX4_hits 6 = .ok (.istore 4, 2) := by decide +kernel
theorem dX4_hits_8 : decode cX4_hits 8 = .ok (.iconst 0, 1) := by decide +kernel
theorem dX4_hits_9 : decode cX4_hits 9 = .ok (.istore 5, 2) := by decide +kernel
theorem dX4_hits_11 : decode cX4_hits 11 = .ok (.iload 5, 2) := by decide +kernel
theorem dX4_hits_13 : decode cX4_hits 13 = .ok (.iload_n 3, 1) := by decide +kernel
theorem dX4_hits_14 : decode cX4_hits 14 = .ok (.if_icmp .ge 39, 3) := by decide +kernel
theorem dX4_hits_17 : decode cX4_hits 17 = .ok (.aload_n 0, 1) := by decide +kernel
theorem dX4_hits_18 : decode cX4_hits 18 = .ok (.iload_n 1, 1) := by decide +kernel
theorem dX4_hits_19 : decode cX4_hits 19 = .ok (.iload 5, 2) := by decide +kernel
theorem dX4_hits_21 : decode cX4_hits 21 = .ok (.iload_n 2, 1) := by decide +kernel
theorem dX4_hits_22 : decode cX4_hits 22 = .ok (.imul, 1) := by decide +kernel
theorem dX4_hits_23 : decode cX4_hits 23 = .ok (.iadd, 1) := by decide +kernel
theorem dX4_hits_24 : decode cX4_hits 24 = .ok (.bipush 40, 2) := by decide +kernel
theorem dX4_hits_26 : decode cX4_hits 26 = .ok (.irem, 1) := by decide +kernel
theorem dX4_hits_27 : decode cX4_hits 27 = .ok (.invokevirtual 107, 3) := by decide +kernel
theorem dX4_hits_30 : decode cX4_hits 30 = .ok (.ifCond .eq 17, 3) := by decide +kernel
theorem dX4_hits_33 : decode cX4_hits 33 = .ok (.aload_n 0, 1) := by decide +kernel
theorem dX4_hits_34 : decode cX4_hits 34 = .ok (.iload_n 1, 1) := by decide +kernel
theorem dX4_hits_35 : decode cX4_hits 35 = .ok (.iload 5, 2) := by decide +kernel
theorem dX4_hits_37 : decode cX4_hits 37 = .ok (.iload_n 2, 1) := by decide +kernel
theorem dX4_hits_38 : decode cX4_hits 38 = .ok (.imul, 1) := by decide +kernel
theorem dX4_hits_39 : decode cX4_hits 39 = .ok (.iadd, 1) := by decide +kernel
theorem dX4_hits_40 : decode cX4_hits 40 = .ok (.bipush 40, 2) := by decide +kernel
theorem dX4_hits_42 : decode cX4_hits 42 = .ok (.irem, 1) := by decide +kernel
theorem dX4_hits_43 : decode cX4_hits 43 = .ok (.invokevirtual 110, 3) := by decide +kernel
theorem dX4_hits_46 : decode cX4_hits 46 = .ok (.pop, 1) := by decide +kernel
theorem dX4_hits_47 : decode cX4_hits 47 = .ok (.iinc 5 1, 3) := by decide +kernel
theorem dX4_hits_50 : decode cX4_hits 50 = .ok (.goto (-39), 3) := by decide +kernel
theorem dX4_hits_53 : decode cX4_hits 53 = .ok (.aload_n 0, 1) := by decide +kernel
theorem dX4_hits_54 : decode cX4_hits 54 = .ok (.getfield 19, 3) := by decide +kernel
theorem dX4_hits_57 : decode cX4_hits 57 = .ok (.iconst 2, 1) := by decide +kernel
theorem dX4_hits_58 : decode cX4_hits 58 = .ok (.iaload, 1) := by decide +kernel
theorem dX4_hits_59 : decode cX4_hits 59 = .ok (.iload 4, 2) := by decide +kernel
theorem dX4_hits_61 : decode cX4_hits 61 = .ok (.isub, 1) := by decide +kernel
theorem dX4_hits_62 : decode cX4_hits 62 = .ok (.ireturn, 1) := by decide +kernel
theorem dX4_wrong_0 : decode cX4_wrong 0 = .ok (.iload_n 1, 1) := by decide +kernel
theorem dX4_wrong_1 : decode cX4_wrong 1 = .ok (.invokestatic 101, 3) := by decide +kernel
theorem dX4_wrong_4 : decode cX4_wrong 4 = .ok (.ifCond .ne 7, 3) := by decide +kernel
theorem dX4_wrong_7 : decode cX4_wrong 7 = .ok (.iconst 1, 1) := by decide +kernel
theorem dX4_wrong_8 : decode cX4_wrong 8 = .ok (.goto 28, 3) := by decide +kernel
theorem dX4_wrong_11 : decode cX4_wrong 11 = .ok (.iload_n 2, 1) := by decide +kernel
theorem dX4_wrong_12 : decode cX4_wrong 12 = .ok (.iconst 0, 1) := by decide +kernel
theorem dX4_wrong_13 : decode cX4_wrong 13 = .ok (.bipush 39, 2) := by decide +kernel
theorem dX4_wrong_15 : decode cX4_wrong 15 = .ok (.invokestatic 26, 3) := by decide +kernel
theorem dX4_wrong_18 : decode cX4_wrong 18 = .ok (.ifCond .eq 17, 3) := by decide +kernel
theorem dX4_wrong_21 : decode cX4_wrong 21 = .ok (.iload_n 3, 1) := by decide +kernel
theorem dX4_wrong_22 : decode cX4_wrong 22 = .ok (.iconst 1, 1) := by decide +kernel
theorem dX4_wrong_23 : decode cX4_wrong 23 = .ok (.bipush 30, 2) := by decide +kernel
theorem dX4_wrong_25 : decode cX4_wrong 25 = .ok (.invokestatic 26, 3) := by decide +kernel
theorem dX4_wrong_28 : decode cX4_wrong 28 = .ok (.ifCond .eq 7, 3) := by decide +kernel
theorem dX4_wrong_31 : decode cX4_wrong 31 = .ok (.iconst 0, 1) := by decide +kernel
theorem dX4_wrong_32 : decode cX4_wrong 32 = .ok (.goto 4, 3) := by decide +kernel
theorem dX4_wrong_35 : decode cX4_wrong 35 = .ok (.iconst 2, 1) := by decide +kernel
theorem dX4_wrong_36 : decode cX4_wrong 36 = .ok (.ireturn, 1) := by decide +kernel
theorem dX4_fetchAll_0 : decode cX4_fetchAll 0 = .ok (.aload_n 0, 1) := by decide +kernel
theorem dX4_fetchAll_1 : decode cX4_fetchAll 1 = .ok (.aload_n 0, 1) := by decide +kernel
theorem dX4_fetchAll_2 : decode cX4_fetchAll 2 = .ok (.iload_n 1, 1) := by decide +kernel
theorem dX4_fetchAll_3 : decode cX4_fetchAll 3 = .ok (.iload_n 2, 1) := by decide +kernel
theorem dX4_fetchAll_4 : decode cX4_fetchAll 4 = .ok (.iload_n 3, 1) := by decide +kernel
theorem dX4_fetchAll_5 : decode cX4_fetchAll 5 = .ok (.invokevirtual 113, 3) := by decide +kernel
theorem dX4_fetchAll_8 : decode cX4_fetchAll 8 = .ok (.putfield 22, 3) := by decide +kernel
theorem dX4_fetchAll_11 : decode cX4_fetchAll 11 = .ok (.aload_n 0, 1) := by decide +kernel
theorem dX4_fetchAll_12 : decode cX4_fetchAll 12 = .ok (.getfield 22, 3) := by decide +kernel
theorem dX4_fetchAll_15 : decode cX4_fetchAll 15 = .ok (.ifCond .ne 13, 3) := by decide +kernel
theorem dX4_fetchAll_18 : decode cX4_fetchAll 18 = .ok (.aload_n 0, 1) := by decide +kernel
theorem dX4_fetchAll_19 : decode cX4_fetchAll 19 = .ok (.iload_n 1, 1) := by decide +kernel
theorem dX4_fetchAll_20 : decode cX4_fetchAll 20 = .ok (.iload_n 2, 1) := by decide +kernel
theorem dX4_fetchAll_21 : decode cX4_fetchAll 21 = .ok (.iload_n 3, 1) := by decide +kernel
theorem dX4_fetchAll_22 : decode cX4_fetchAll 22 = .ok (.invokevirtual 117, 3) := by decide +kernel
theorem dX4_fetchAll_25 : decode cX4_fetchAll 25 = .ok (.goto 4, 3) := by decide +kernel
theorem dX4_fetchAll_28 : decode cX4_fetchAll 28 = .ok (.iconst 0, 1) := by decide +kernel
theorem dX4_fetchAll_29 : decode cX4_fetchAll 29 = .ok (.ireturn, 1) := by decide +kernel
theorem dX4_pin_0 : decode cX4_pin 0 = .ok (.aload_n 0, 1) := by decide +kernel
theorem dX4_pin_1 : decode cX4_pin 1 = .ok (.iconst 0, 1) := by decide +kernel
theorem dX4_pin_2 : decode cX4_pin 2 = .ok (.putfield 22, 3) := by decide +kernel
theorem dX4_pin_5 : decode cX4_pin 5 = .ok (.iload_n 1, 1) := by decide +kernel
theorem dX4_pin_6 : decode cX4_pin 6 = .ok (.invokestatic 101, 3) := by decide +kernel
theorem dX4_pin_9 : decode cX4_pin 9 = .ok (.ifCond .ne 9, 3) := by decide +kernel
theorem dX4_pin_12 : decode cX4_pin 12 = .ok (.aload_n 0, 1) := by decide +kernel
theorem dX4_pin_13 : decode cX4_pin 13 = .ok (.iconst 1, 1) := by decide +kernel
theorem dX4_pin_14 : decode cX4_pin 14 = .ok (.invokevirtual 104, 3) := by decide +kernel
theorem dX4_pin_17 : decode cX4_pin 17 = .ok (.ireturn, 1) := by decide +kernel
theorem dX4_pin_18 : decode cX4_pin 18 = .ok (.aload_n 0, 1) := by decide +kernel
theorem dX4_pin_19 : decode cX4_pin 19 = .ok (.iload_n 1, 1) := by decide +kernel
theorem dX4_pin_20 : decode cX4_pin 20 = .ok (.invokevirtual 61, 3) := by decide +kernel
theorem dX4_pin_23 : decode cX4_pin 23 = .ok (.ifCond .eq 14, 3) := by decide +kernel
theorem dX4_pin_26 : decode cX4_pin 26 = .ok (.aload_n 0, 1) := by decide +kernel
theorem dX4_pin_27 : decode cX4_pin 27 = .ok (.iload_n 1, 1) := by decide +kernel
theorem dX4_pin_28 : decode cX4_pin 28 = .ok (.iconst 2, 1) := by decide +kernel
theorem dX4_pin_29 : decode cX4_pin 29 = .ok (.invokevirtual 30, 3) := by decide +kernel
theorem dX4_pin_32 : decode cX4_pin 32 = .ok (.bipush 9, 2) := by decide +kernel
theorem dX4_pin_34 : decode cX4_pin 34 = .ok (.if_icmp .ne 9, 3) := by decide +kernel
theorem dX4_pin_37 : decode cX4_pin 37 = .ok (.aload_n 0, 1) := by decide +kernel
theorem dX4_pin_38 : decode cX4_pin 38 = .ok (.iconst 2, 1) := by decide +kernel
theorem dX4_pin_39 : decode cX4_pin 39 = .ok (.invokevirtual 104, 3) := by decide +kernel
theorem dX4_pin_42 : decode cX4_pin 42 = .ok (.ireturn, 1) := by decide +kernel
theorem dX4_pin_43 : decode cX4_pin 43 = .ok (.aload_n 0, 1) := by decide +kernel
theorem dX4_pin_44 : decode cX4_pin 44 = .ok (.getfield 9, 3) := by decide +kernel
theorem dX4_pin_47 : decode cX4_pin 47 = .ok (.iconst 4, 1) := by decide +kernel
theorem dX4_pin_48 : decode cX4_pin 48 = .ok (.iload_n 1, 1) := by decide +kernel
theorem dX4_pin_49 : decode cX4_pin 49 = .ok (.imul, 1) := by decide +kernel
theorem dX4_pin_50 : decode cX4_pin 50 = .ok (.iconst 2, 1) := by decide +kernel
theorem dX4_pin_51 : decode cX4_pin 51 = .ok (.iadd, 1) := by decide +kernel
theorem dX4_pin_52 : decode cX4_pin 52 = .ok (.dup2, 1) := by decide +kernel
theorem dX4_pin_53 : decode cX4_pin 53 = .ok (.iaload, 1) := by decide +kernel
theorem dX4_pin_54 : decode cX4_pin 54 = .ok (.iconst 1, 1) := by decide +kernel
theorem dX4_pin_55 : decode cX4_pin 55 = .ok (.iadd, 1) := by decide +kernel
theorem dX4_pin_56 : decode cX4_pin 56 = .ok (.iastore, 1) := by decide +kernel
theorem dX4_pin_57 : decode cX4_pin 57 = .ok (.aload_n 0, 1) := by decide +kernel
theorem dX4_pin_58 : decode cX4_pin 58 = .ok (.iload_n 1, 1) := by decide +kernel
theorem dX4_pin_59 : decode cX4_pin 59 = .ok (.iconst 2, 1) := by decide +kernel
theorem dX4_pin_60 : decode cX4_pin 60 = .ok (.invokevirtual 30, 3) := by decide +kernel
theorem dX4_pin_63 : decode cX4_pin 63 = .ok (.ireturn, 1) := by decide +kernel
theorem dX4_unpin_0 : decode cX4_unpin 0 = .ok (.aload_n 0, 1) := by decide +kernel
theorem dX4_unpin_1 : decode cX4_unpin 1 = .ok (.iconst 0, 1) := by decide +kernel
theorem dX4_unpin_2 : decode cX4_unpin 2 = .ok (.putfield 22, 3) := by decide +kernel
theorem dX4_unpin_5 : decode cX4_unpin 5 = .ok (.iload_n 1, 1) := by decide +kernel
theorem dX4_unpin_6 : decode cX4_unpin 6 = .ok (.invokestatic 101, 3) := by decide +kernel
theorem dX4_unpin_9 : decode cX4_unpin 9 = .ok (.ifCond .ne 9, 3) := by decide +kernel
theorem dX4_unpin_12 : decode cX4_unpin 12 = .ok (.aload_n 0, 1) := by decide +kernel
theorem dX4_unpin_13 : decode cX4_unpin 13 = .ok (.iconst 1, 1) := by decide +kernel
theorem dX4_unpin_14 : decode cX4_unpin 14 = .ok (.invokevirtual 104, 3) := by decide +kernel
theorem dX4_unpin_17 : decode cX4_unpin 17 = .ok (.ireturn, 1) := by decide +kernel
theorem dX4_unpin_18 : decode cX4_unpin 18 = .ok (.aload_n 0, 1) := by decide +kernel
theorem dX4_unpin_19 : decode cX4_unpin 19 = .ok (.iload_n 1, 1) := by decide +kernel
theorem dX4_unpin_20 : decode cX4_unpin 20 = .ok (.invokevirtual 61, 3) := by decide +kernel
theorem dX4_unpin_23 : decode cX4_unpin 23 = .ok (.ifCond .eq 12, 3) := by decide +kernel
theorem dX4_unpin_26 : decode cX4_unpin 26 = .ok (.aload_n 0, 1) := by decide +kernel
theorem dX4_unpin_27 : decode cX4_unpin 27 = .ok (.iload_n 1, 1) := by decide +kernel
theorem dX4_unpin_28 : decode cX4_unpin 28 = .ok (.iconst 2, 1) := by decide +kernel
theorem dX4_unpin_29 : decode cX4_unpin 29 = .ok (.invokevirtual 30, 3) := by decide +kernel
theorem dX4_unpin_32 : decode cX4_unpin 32 = .ok (.ifCond .ne 9, 3) := by decide +kernel
theorem dX4_unpin_35 : decode cX4_unpin 35 = .ok (.aload_n 0, 1) := by decide +kernel
theorem dX4_unpin_36 : decode cX4_unpin 36 = .ok (.iconst 2, 1) := by decide +kernel
theorem dX4_unpin_37 : decode cX4_unpin 37 = .ok (.invokevirtual 104, 3) := by decide +kernel
theorem dX4_unpin_40 : decode cX4_unpin 40 = .ok (.ireturn, 1) := by decide +kernel
theorem dX4_unpin_41 : decode cX4_unpin 41 = .ok (.aload_n 0, 1) := by decide +kernel
theorem dX4_unpin_42 : decode cX4_unpin 42 = .ok (.getfield 9, 3) := by decide +kernel
theorem dX4_unpin_45 : decode cX4_unpin 45 = .ok (.iconst 4, 1) := by decide +kernel
theorem dX4_unpin_46 : decode cX4_unpin 46 = .ok (.iload_n 1, 1) := by decide +kernel
theorem dX4_unpin_47 : decode cX4_unpin 47 = .ok (.imul, 1) := by decide +kernel
theorem dX4_unpin_48 : decode cX4_unpin 48 = .ok (.iconst 2, 1) := by decide +kernel
theorem dX4_unpin_49 : decode cX4_unpin 49 = .ok (.iadd, 1) := by decide +kernel
theorem dX4_unpin_50 : decode cX4_unpin 50 = .ok (.dup2, 1) := by decide +kernel
theorem dX4_unpin_51 : decode cX4_unpin 51 = .ok (.iaload, 1) := by decide +kernel
theorem dX4_unpin_52 : decode cX4_unpin 52 = .ok (.iconst 1, 1) := by decide +kernel
theorem dX4_unpin_53 : decode cX4_unpin 53 = .ok (.isub, 1) := by decide +kernel
theorem dX4_unpin_54 : decode cX4_unpin 54 = .ok (.iastore, 1) := by decide +kernel
theorem dX4_unpin_55 : decode cX4_unpin 55 = .ok (.aload_n 0, 1) := by decide +kernel
theorem dX4_unpin_56 : decode cX4_unpin 56 = .ok (.iload_n 1, 1) := by decide +kernel
theorem dX4_unpin_57 : decode cX4_unpin 57 = .ok (.iconst 2, 1) := by decide +kernel
theorem dX4_unpin_58 : decode cX4_unpin 58 = .ok (.invokevirtual 30, 3) := by decide +kernel
theorem dX4_unpin_61 : decode cX4_unpin 61 = .ok (.ireturn, 1) := by decide +kernel
theorem dX4_eat_0 : decode cX4_eat 0 = .ok (.aload_n 0, 1) := by decide +kernel
theorem dX4_eat_1 : decode cX4_eat 1 = .ok (.iconst 0, 1) := by decide +kernel
theorem dX4_eat_2 : decode cX4_eat 2 = .ok (.putfield 22, 3) := by decide +kernel
theorem dX4_eat_5 : decode cX4_eat 5 = .ok (.iload_n 1, 1) := by decide +kernel
theorem dX4_eat_6 : decode cX4_eat 6 = .ok (.invokestatic 101, 3) := by decide +kernel
theorem dX4_eat_9 : decode cX4_eat 9 = .ok (.ifCond .ne 9, 3) := by decide +kernel
theorem dX4_eat_12 : decode cX4_eat 12 = .ok (.aload_n 0, 1) := by decide +kernel
theorem dX4_eat_13 : decode cX4_eat 13 = .ok (.iconst 1, 1) := by decide +kernel
theorem dX4_eat_14 : decode cX4_eat 14 = .ok (.invokevirtual 104, 3) := by decide +kernel
theorem dX4_eat_17 : decode cX4_eat 17 = .ok (.ireturn, 1) := by decide +kernel
theorem dX4_eat_18 : decode cX4_eat 18 = .ok (.aload_n 0, 1) := by decide +kernel
theorem dX4_eat_19 : decode cX4_eat 19 = .ok (.iload_n 1, 1) := by decide +kernel
theorem dX4_eat_20 : decode cX4_eat 20 = .ok (.invokevirtual 61, 3) := by decide +kernel
theorem dX4_eat_23 : decode cX4_eat 23 = .ok (.ifCond .eq 12, 3) := by decide +kernel
theorem dX4_eat_26 : decode cX4_eat 26 = .ok (.aload_n 0, 1) := by decide +kernel
theorem dX4_eat_27 : decode cX4_eat 27 = .ok (.iload_n 1, 1) := by decide +kernel
theorem dX4_eat_28 : decode cX4_eat 28 = .ok (.iconst 2, 1) := by decide +kernel
theorem dX4_eat_29 : decode cX4_eat 29 = .ok (.invokevirtual 30, 3) := by decide +kernel
theorem dX4_eat_32 : decode cX4_eat 32 = .ok (.ifCond .le 9, 3) := by decide +kernel
theorem dX4_eat_35 : decode cX4_eat 35 = .ok (.aload_n 0, 1) := by decide +kernel
theorem dX4_eat_36 : decode cX4_eat 36 = .ok (.iconst 2, 1) := by decide +kernel
theorem dX4_eat_37 : decode cX4_eat 37 = .ok (.invokevirtual 104, 3) := by decide +kernel
theorem dX4_eat_40 : decode cX4_eat 40 = .ok (.ireturn, 1) := by decide +kernel
theorem dX4_eat_41 : decode cX4_eat 41 = .ok (.aload_n 0, 1) := by decide +kernel
theorem dX4_eat_42 : decode cX4_eat 42 = .ok (.aload_n 0, 1) := by decide +kernel
theorem dX4_eat_43 : decode cX4_eat 43 = .ok (.iload_n 1, 1) := by decide +kernel
theorem dX4_eat_44 : decode cX4_eat 44 = .ok (.iconst 0, 1) := by decide +kernel
theorem dX4_eat_45 : decode cX4_eat 45 = .ok (.invokevirtual 30, 3) := by decide +kernel
theorem dX4_eat_48 : decode cX4_eat 48 = .ok (.aload_n 0, 1) := by decide +kernel
theorem dX4_eat_49 : decode cX4_eat 49 = .ok (.iload_n 1, 1) := by decide +kernel
theorem dX4_eat_50 : decode cX4_eat 50 = .ok (.invokevirtual 120, 3) := by decide +kernel
theorem dX4_eat_53 : decode cX4_eat 53 = .ok (.invokevirtual 73, 3) := by decide +kernel
theorem dX4_eat_56 : decode cX4_eat 56 = .ok (.aload_n 0, 1) := by decide +kernel
theorem dX4_eat_57 : decode cX4_eat 57 = .ok (.getfield 9, 3) := by decide +kernel
theorem dX4_eat_60 : decode cX4_eat 60 = .ok (.iconst 4, 1) := by decide +kernel
theorem dX4_eat_61 : decode cX4_eat 61 = .ok (.iload_n 1, 1) := by decide +kernel
theorem dX4_eat_62 : decode cX4_eat 62 = .ok (.imul, 1) := by decide +kernel
theorem dX4_eat_63 : decode cX4_eat 63 = .ok (.iconst 0, 1) := by decide +kernel
theorem dX4_eat_64 : decode cX4_eat 64 = .ok (.iadd, 1) := by decide +kernel
theorem dX4_eat_65 : decode cX4_eat 65 = .ok (.iconst (-1), 1) := by decide +kernel
theorem dX4_eat_66 : decode cX4_eat 66 = .ok (.iastore, 1) := by decide +kernel
theorem dX4_eat_67 : decode cX4_eat 67 = .ok (.aload_n 0, 1) := by decide +kernel
theorem dX4_eat_68 : decode cX4_eat 68 = .ok (.iload_n 1, 1) := by decide +kernel
theorem dX4_eat_69 : decode cX4_eat 69 = .ok (.iconst 3, 1) := by decide +kernel
theorem dX4_eat_70 : decode cX4_eat 70 = .ok (.invokevirtual 30, 3) := by decide +kernel
theorem dX4_eat_73 : decode cX4_eat 73 = .ok (.ireturn, 1) := by decide +kernel
theorem dX4_place_0 : decode cX4_place 0 = .ok (.aload_n 0, 1) := by decide +kernel
theorem dX4_place_1 : decode cX4_place 1 = .ok (.getfield 19, 3) := by decide +kernel
theorem dX4_place_4 : decode cX4_place 4 = .ok (.iconst 0, 1) := by decide +kernel
theorem dX4_place_5 : decode cX4_place 5 = .ok (.iload_n 1, 1) := by decide +kernel
theorem dX4_place_6 : decode cX4_place 6 = .ok (.iastore, 1) := by decide +kernel
theorem dX4_place_7 : decode cX4_place 7 = .ok (.aload_n 0, 1) := by decide +kernel
theorem dX4_place_8 : decode cX4_place 8 = .ok (.invokevirtual 82, 3) := by decide +kernel
theorem dX4_place_11 : decode cX4_place 11 = .ok (.iload_n 1, 1) := by decide +kernel
theorem dX4_place_12 : decode cX4_place 12 = .ok (.if_icmp .le 11, 3) := by decide +kernel
theorem dX4_place_15 : decode cX4_place 15 = .ok (.aload_n 0, 1) := by decide +kernel
theorem dX4_place_16 : decode cX4_place 16 = .ok (.invokevirtual 98, 3) := by decide +kernel
theorem dX4_place_19 : decode cX4_place 19 = .ok (.pop, 1) := by decide +kernel
theorem dX4_place_20 : decode cX4_place 20 = .ok (.goto (-13), 3) := by decide +kernel
theorem dX4_place_23 : decode cX4_place 23 = .ok (.aload_n 0, 1) := by decide +kernel
theorem dX4_place_24 : decode cX4_place 24 = .ok (.getfield 19, 3) := by decide +kernel
theorem dX4_place_27 : decode cX4_place 27 = .ok (.iconst 1, 1) := by decide +kernel
theorem dX4_place_28 : decode cX4_place 28 = .ok (.iload_n 1, 1) := by decide +kernel
theorem dX4_place_29 : decode cX4_place 29 = .ok (.aload_n 0, 1) := by decide +kernel
theorem dX4_place_30 : decode cX4_place 30 = .ok (.getfield 19, 3) := by decide +kernel
theorem dX4_place_33 : decode cX4_place 33 = .ok (.iconst 1, 1) := by decide +kernel
theorem dX4_place_34 : decode cX4_place 34 = .ok (.iaload, 1) := by decide +kernel
theorem dX4_place_35 : decode cX4_place 35 = .ok (.invokestatic 95, 3) := by decide +kernel
theorem dX4_place_38 : decode cX4_place 38 = .ok (.iastore, 1) := by decide +kernel
theorem dX4_place_39 : decode cX4_place 39 = .ok (.aload_n 0, 1) := by decide +kernel
theorem dX4_place_40 : decode cX4_place 40 = .ok (.iconst 0, 1) := by decide +kernel
theorem dX4_place_41 : decode cX4_place 41 = .ok (.invokevirtual 51, 3) := by decide +kernel
theorem dX4_place_44 : decode cX4_place 44 = .ok (.aload_n 0, 1) := by decide +kernel
theorem dX4_place_45 : decode cX4_place 45 = .ok (.iconst 1, 1) := by decide +kernel
theorem dX4_place_46 : decode cX4_place 46 = .ok (.invokevirtual 51, 3) := by decide +kernel
theorem dX4_place_49 : decode cX4_place 49 = .ok (.return_, 1) := by decide +kernel
theorem dX4_setPlaces_0 : decode cX4_setPlaces 0 = .ok (.aload_n 0, 1) := by decide +kernel
theorem dX4_setPlaces_1 : decode cX4_setPlaces 1 = .ok (.iconst 0, 1) := by decide +kernel
theorem dX4_setPlaces_2 : decode cX4_setPlaces 2 = .ok (.putfield 22, 3) := by decide +kernel
theorem dX4_setPlaces_5 : decode cX4_setPlaces 5 = .ok (.iload_n 1, 1) := by decide +kernel
theorem dX4_setPlaces_6 : decode cX4_setPlaces 6 = .ok (.iconst 2, 1) := by decide +kernel
theorem dX4_setPlaces_7 : decode cX4_setPlaces 7 = .ok (.bipush 12, 2) := by decide +kernel
theorem dX4_setPlaces_9 : decode cX4_setPlaces 9 = .ok (.invokestatic 26, 3) := by decide +kernel
theorem dX4_setPlaces_12 : decode cX4_setPlaces 12 = .ok (.ifCond .ne 9, 3) := by decide +kernel
theorem dX4_setPlaces_15 : decode cX4_setPlaces 15 = .ok (.aload_n 0, 1) := by decide +kernel
theorem dX4_setPlaces_16 : decode cX4_setPlaces 16 = .ok (.iconst 1, 1) := by decide +kernel
theorem dX4_setPlaces_17 : decode cX4_setPlaces 17 = .ok (.invokevirtual 104, 3) := by decide +kernel
theorem dX4_setPlaces_20 : decode cX4_setPlaces 20 = .ok (.ireturn, 1) := by decide +kernel
theorem dX4_setPlaces_21 : decode cX4_setPlaces 21 = .ok (.aload_n 0, 1) := by decide +kernel
theorem dX4_setPlaces_22 : decode cX4_setPlaces 22 = .ok (.invokevirtual 86, 3) := by decide +kernel
theorem dX4_setPlaces_25 : decode cX4_setPlaces 25 = .ok (.iload_n 1, 1) := by decide +kernel
theorem dX4_setPlaces_26 : decode cX4_setPlaces 26 = .ok (.if_icmp .le 9, 3) := by decide +kernel
theorem dX4_setPlaces_29 : decode cX4_setPlaces 29 = .ok (.aload_n 0, 1) := by decide +kernel
theorem dX4_setPlaces_30 : decode cX4_setPlaces 30 = .ok (.iconst 2, 1) := by decide +kernel
theorem dX4_setPlaces_31 : decode cX4_setPlaces 31 = .ok (.invokevirtual 104, 3) := by decide +kernel
theorem dX4_setPlaces_34 : decode cX4_setPlaces 34 = .ok (.ireturn, 1) := by decide +kernel
theorem dX4_setPlaces_35 : decode cX4_setPlaces 35 = .ok (.aload_n 0, 1) := by decide +kernel
theorem dX4_setPlaces_36 : decode cX4_setPlaces 36 = .ok (.getfield 19, 3) := by decide +kernel
theorem dX4_setPlaces_39 : decode cX4_setPlaces 39 = .ok (.iconst 0, 1) := by decide +kernel
theorem dX4_setPlaces_40 : decode cX4_setPlaces 40 = .ok (.iaload, 1) := by decide +kernel
theorem dX4_setPlaces_41 : decode cX4_setPlaces 41 = .ok (.istore_n 2, 1) := by decide +kernel
theorem dX4_setPlaces_42 : decode cX4_setPlaces 42 = .ok (.aload_n 0, 1) := by decide +kernel
theorem dX4_setPlaces_43 : decode cX4_setPlaces 43 = .ok (.iload_n 1, 1) := by decide +kernel
theorem dX4_setPlaces_44 : decode cX4_setPlaces 44 = .ok (.invokevirtual 123, 3) := by decide +kernel
theorem dX4_setPlaces_47 : decode cX4_setPlaces 47 = .ok (.iload_n 2, 1) := by decide +kernel
theorem dX4_setPlaces_48 : decode cX4_setPlaces 48 = .ok (.ireturn, 1) := by decide +kernel
theorem dX4_setGoal_0 : decode cX4_setGoal 0 = .ok (.aload_n 0, 1) := by decide +kernel
theorem dX4_setGoal_1 : decode cX4_setGoal 1 = .ok (.iconst 0, 1) := by decide +kernel
theorem dX4_setGoal_2 : decode cX4_setGoal 2 = .ok (.putfield 22, 3) := by decide +kernel
theorem dX4_setGoal_5 : decode cX4_setGoal 5 = .ok (.iload_n 1, 1) := by decide +kernel
theorem dX4_setGoal_6 : decode cX4_setGoal 6 = .ok (.iconst 0, 1) := by decide +kernel
theorem dX4_setGoal_7 : decode cX4_setGoal 7 = .ok (.aload_n 0, 1) := by decide +kernel
theorem dX4_setGoal_8 : decode cX4_setGoal 8 = .ok (.getfield 19, 3) := by decide +kernel
theorem dX4_setGoal_11 : decode cX4_setGoal 11 = .ok (.iconst 0, 1) := by decide +kernel
theorem dX4_setGoal_12 : decode cX4_setGoal 12 = .ok (.iaload, 1) := by decide +kernel
theorem dX4_setGoal_13 : decode cX4_setGoal 13 = .ok (.invokestatic 26, 3) := by decide +kernel
theorem dX4_setGoal_16 : decode cX4_setGoal 16 = .ok (.ifCond .ne 9, 3) := by decide +kernel
theorem dX4_setGoal_19 : decode cX4_setGoal 19 = .ok (.aload_n 0, 1) := by decide +kernel
theorem dX4_setGoal_20 : decode cX4_setGoal 20 = .ok (.iconst 1, 1) := by decide +kernel
theorem dX4_setGoal_21 : decode cX4_setGoal 21 = .ok (.invokevirtual 104, 3) := by decide +kernel
theorem dX4_setGoal_24 : decode cX4_setGoal 24 = .ok (.ireturn, 1) := by decide +kernel
theorem dX4_setGoal_25 : decode cX4_setGoal 25 = .ok (.aload_n 0, 1) := by decide +kernel
theorem dX4_setGoal_26 : decode cX4_setGoal 26 = .ok (.getfield 19, 3) := by decide +kernel
theorem dX4_setGoal_29 : decode cX4_setGoal 29 = .ok (.iconst 1, 1) := by decide +kernel
theorem dX4_setGoal_30 : decode cX4_setGoal 30 = .ok (.iaload, 1) := by decide +kernel
theorem dX4_setGoal_31 : decode cX4_setGoal 31 = .ok (.istore_n 2, 1) := by decide +kernel
theorem dX4_setGoal_32 : decode cX4_setGoal 32 = .ok (.aload_n 0, 1) := by decide +kernel
theorem dX4_setGoal_33 : decode cX4_setGoal 33 = .ok (.getfield 19, 3) := by decide +kernel
theorem dX4_setGoal_36 : decode cX4_setGoal 36 = .ok (.iconst 1, 1) := by decide +kernel
theorem dX4_setGoal_37 : decode cX4_setGoal 37 = .ok (.iload_n 1, 1) := by decide +kernel
theorem dX4_setGoal_38 : decode cX4_setGoal 38 = .ok (.iastore, 1) := by decide +kernel
theorem dX4_setGoal_39 : decode cX4_setGoal 39 = .ok (.iload_n 2, 1) := by decide +kernel
theorem dX4_setGoal_40 : decode cX4_setGoal 40 = .ok (.ireturn, 1) := by decide +kernel
theorem dX4_jar_0 : decode cX4_jar 0 = .ok (.aload_n 0, 1) := by decide +kernel
theorem dX4_jar_1 : decode cX4_jar 1 = .ok (.iconst 0, 1) := by decide +kernel
theorem dX4_jar_2 : decode cX4_jar 2 = .ok (.putfield 22, 3) := by decide +kernel
theorem dX4_jar_5 : decode cX4_jar 5 = .ok (.iload_n 1, 1) := by decide +kernel
theorem dX4_jar_6 : decode cX4_jar 6 = .ok (.invokestatic 101, 3) := by decide +kernel
theorem dX4_jar_9 : decode cX4_jar 9 = .ok (.ifCond .eq 12, 3) := by decide +kernel
theorem dX4_jar_12 : decode cX4_jar 12 = .ok (.iload_n 2, 1) := by decide +kernel
theorem dX4_jar_13 : decode cX4_jar 13 = .ok (.iconst 0, 1) := by decide +kernel
theorem dX4_jar_14 : decode cX4_jar 14 = .ok (.iconst 4, 1) := by decide +kernel
theorem dX4_jar_15 : decode cX4_jar 15 = .ok (.invokestatic 26, 3) := by decide +kernel
theorem dX4_jar_18 : decode cX4_jar 18 = .ok (.ifCond .ne 9, 3) := by decide +kernel
theorem dX4_jar_21 : decode cX4_jar 21 = .ok (.aload_n 0, 1) := by decide +kernel
theorem dX4_jar_22 : decode cX4_jar 22 = .ok (.iconst 1, 1) := by decide +kernel
theorem dX4_jar_23 : decode cX4_jar 23 = .ok (.invokevirtual 104, 3) := by decide +kernel
theorem dX4_jar_26 : decode cX4_jar 26 = .ok (.ireturn, 1) := by decide +kernel
theorem dX4_jar_27 : decode cX4_jar 27 = .ok (.aload_n 0, 1) := by decide +kernel
theorem dX4_jar_28 : decode cX4_jar 28 = .ok (.iload_n 1, 1) := by decide +kernel
theorem dX4_jar_29 : decode cX4_jar 29 = .ok (.invokevirtual 61, 3) := by decide +kernel
theorem dX4_jar_32 : decode cX4_jar 32 = .ok (.ifCond .ne 5, 3) := by decide +kernel
theorem dX4_jar_35 : decode cX4_jar 35 = .ok (.iconst (-1), 1) := by decide +kernel
theorem dX4_jar_36 : decode cX4_jar 36 = .ok (.ireturn, 1) := by decide +kernel
theorem dX4_jar_37 : decode cX4_jar 37 = .ok (.iload_n 2, 1) := by decide +kernel
theorem dX4_jar_38 : decode cX4_jar 38 = .ok (.ifCond .ne 12, 3) := by decide +kernel
theorem dX4_jar_41 : decode cX4_jar 41 = .ok (.aload_n 0, 1) := by decide +kernel
theorem dX4_jar_42 : decode cX4_jar 42 = .ok (.iload_n 1, 1) := by decide +kernel
theorem dX4_jar_43 : decode cX4_jar 43 = .ok (.iconst 0, 1) := by decide +kernel
theorem dX4_jar_44 : decode cX4_jar 44 = .ok (.invokevirtual 30, 3) := by decide +kernel
theorem dX4_jar_47 : decode cX4_jar 47 = .ok (.goto 24, 3) := by decide +kernel
theorem dX4_jar_50 : decode cX4_jar 50 = .ok (.iload_n 2, 1) := by decide +kernel
theorem dX4_jar_51 : decode cX4_jar 51 = .ok (.iconst 1, 1) := by decide +kernel
theorem dX4_jar_52 : decode cX4_jar 52 = .ok (.if_icmp .ne 11, 3) := by decide +kernel
theorem dX4_jar_55 : decode cX4_jar 55 = .ok (.aload_n 0, 1) := by decide +kernel
theorem dX4_jar_56 : decode cX4_jar 56 = .ok (.iload_n 1, 1) := by decide +kernel
theorem dX4_jar_57 : decode cX4_jar 57 = .ok (.invokevirtual 120, 3) := by decide +kernel
theorem dX4_jar_60 : decode cX4_jar 60 = .ok (.goto 11, 3) := by decide +kernel
theorem dX4_jar_63 : decode cX4_jar 63 = .ok (.aload_n 0, 1) := by decide +kernel
theorem dX4_jar_64 : decode cX4_jar 64 = .ok (.iload_n 1, 1) := by decide +kernel
theorem dX4_jar_65 : decode cX4_jar 65 = .ok (.iload_n 2, 1) := by decide +kernel
theorem dX4_jar_66 : decode cX4_jar 66 = .ok (.iconst 1, 1) := by decide +kernel
theorem dX4_jar_67 : decode cX4_jar 67 = .ok (.isub, 1) := by decide +kernel
theorem dX4_jar_68 : decode cX4_jar 68 = .ok (.invokevirtual 30, 3) := by decide +kernel
theorem dX4_jar_71 : decode cX4_jar 71 = .ok (.ireturn, 1) := by decide +kernel
theorem dX4_shelf_0 : decode cX4_shelf 0 = .ok (.aload_n 0, 1) := by decide +kernel
theorem dX4_shelf_1 : decode cX4_shelf 1 = .ok (.iconst 0, 1) := by decide +kernel
theorem dX4_shelf_2 : decode cX4_shelf 2 = .ok (.putfield 22, 3) := by decide +kernel
theorem dX4_shelf_5 : decode cX4_shelf 5 = .ok (.iload_n 1, 1) := by decide +kernel
theorem dX4_shelf_6 : decode cX4_shelf 6 = .ok (.iconst 0, 1) := by decide +kernel
theorem dX4_shelf_7 : decode cX4_shelf 7 = .ok (.iconst 1, 1) := by decide +kernel
theorem dX4_shelf_8 : decode cX4_shelf 8 = .ok (.invokestatic 26, 3) := by decide +kernel
theorem dX4_shelf_11 : decode cX4_shelf 11 = .ok (.ifCond .eq 27, 3) := by decide +kernel
theorem dX4_shelf_14 : decode cX4_shelf 14 = .ok (.iload_n 2, 1) := by decide +kernel
theorem dX4_shelf_15 : decode cX4_shelf 15 = .ok (.iconst 0, 1) := by decide +kernel
theorem dX4_shelf_16 : decode cX4_shelf 16 = .ok (.aload_n 0, 1) := by decide +kernel
theorem dX4_shelf_17 : decode cX4_shelf 17 = .ok (.iload_n 1, 1) := by decide +kernel
theorem dX4_shelf_18 : decode cX4_shelf 18 = .ok (.invokevirtual 34, 3) := by decide +kernel
theorem dX4_shelf_21 : decode cX4_shelf 21 = .ok (.iconst 1, 1) := by decide +kernel
theorem dX4_shelf_22 : decode cX4_shelf 22 = .ok (.isub, 1) := by decide +kernel
theorem dX4_shelf_23 : decode cX4_shelf 23 = .ok (.invokestatic 26, 3) := by decide +kernel
theorem dX4_shelf_26 : decode cX4_shelf 26 = .ok (.ifCond .eq 12, 3) := by decide +kernel
theorem dX4_shelf_29 : decode cX4_shelf 29 = .ok (.aload_n 0, 1) := by decide +kernel
theorem dX4_shelf_30 : decode cX4_shelf 30 = .ok (.iload_n 1, 1) := by decide +kernel
theorem dX4_shelf_31 : decode cX4_shelf 31 = .ok (.iload_n 2, 1) := by decide +kernel
theorem dX4_shelf_32 : decode cX4_shelf 32 = .ok (.invokevirtual 58, 3) := by decide +kernel
theorem dX4_shelf_35 : decode cX4_shelf 35 = .ok (.goto 8, 3) := by decide +kernel
theorem dX4_shelf_38 : decode cX4_shelf 38 = .ok (.aload_n 0, 1) := by decide +kernel
theorem dX4_shelf_39 : decode cX4_shelf 39 = .ok (.iconst 1, 1) := by decide +kernel
theorem dX4_shelf_40 : decode cX4_shelf 40 = .ok (.invokevirtual 104, 3) := by decide +kernel
theorem dX4_shelf_43 : decode cX4_shelf 43 = .ok (.ireturn, 1) := by decide +kernel
theorem dX4_ghost_0 : decode cX4_ghost 0 = .ok (.aload_n 0, 1) := by decide +kernel
theorem dX4_ghost_1 : decode cX4_ghost 1 = .ok (.iconst 0, 1) := by decide +kernel
theorem dX4_ghost_2 : decode cX4_ghost 2 = .ok (.putfield 22, 3) := by decide +kernel
theorem dX4_ghost_5 : decode cX4_ghost 5 = .ok (.iload_n 1, 1) := by decide +kernel
theorem dX4_ghost_6 : decode cX4_ghost 6 = .ok (.iconst 0, 1) := by decide +kernel
theorem dX4_ghost_7 : decode cX4_ghost 7 = .ok (.iconst 1, 1) := by decide +kernel
theorem dX4_ghost_8 : decode cX4_ghost 8 = .ok (.invokestatic 26, 3) := by decide +kernel
theorem dX4_ghost_11 : decode cX4_ghost 11 = .ok (.ifCond .eq 27, 3) := by decide +kernel
theorem dX4_ghost_14 : decode cX4_ghost 14 = .ok (.iload_n 2, 1) := by decide +kernel
theorem dX4_ghost_15 : decode cX4_ghost 15 = .ok (.iconst 0, 1) := by decide +kernel
theorem dX4_ghost_16 : decode cX4_ghost 16 = .ok (.aload_n 0, 1) := by decide +kernel
theorem dX4_ghost_17 : decode cX4_ghost 17 = .ok (.iload_n 1, 1) := by decide +kernel
theorem dX4_ghost_18 : decode cX4_ghost 18 = .ok (.invokevirtual 44, 3) := by decide +kernel
theorem dX4_ghost_21 : decode cX4_ghost 21 = .ok (.iconst 1, 1) := by decide +kernel
theorem dX4_ghost_22 : decode cX4_ghost 22 = .ok (.isub, 1) := by decide +kernel
theorem dX4_ghost_23 : decode cX4_ghost 23 = .ok (.invokestatic 26, 3) := by decide +kernel
theorem dX4_ghost_26 : decode cX4_ghost 26 = .ok (.ifCond .eq 12, 3) := by decide +kernel
theorem dX4_ghost_29 : decode cX4_ghost 29 = .ok (.aload_n 0, 1) := by decide +kernel
theorem dX4_ghost_30 : decode cX4_ghost 30 = .ok (.iload_n 1, 1) := by decide +kernel
theorem dX4_ghost_31 : decode cX4_ghost 31 = .ok (.iload_n 2, 1) := by decide +kernel
theorem dX4_ghost_32 : decode cX4_ghost 32 = .ok (.invokevirtual 55, 3) := by decide +kernel
theorem dX4_ghost_35 : decode cX4_ghost 35 = .ok (.goto 8, 3) := by decide +kernel
theorem dX4_ghost_38 : decode cX4_ghost 38 = .ok (.aload_n 0, 1) := by decide +kernel
theorem dX4_ghost_39 : decode cX4_ghost 39 = .ok (.iconst 1, 1) := by decide +kernel
theorem dX4_ghost_40 : decode cX4_ghost 40 = .ok (.invokevirtual 104, 3) := by decide +kernel
theorem dX4_ghost_43 : decode cX4_ghost 43 = .ok (.ireturn, 1) := by decide +kernel
theorem dX4_counted_0 : decode cX4_counted 0 = .ok (.iload_n 1, 1) := by decide +kernel
theorem dX4_counted_1 : decode cX4_counted 1 = .ok (.tableswitch 102 0 10 #[59, 66, 72, 78, 84, 90, 102, 102, 102, 102, 97], 59) := by decide +kernel
theorem dX4_counted_60 : decode cX4_counted 60 = .ok (.aload_n 0, 1) := by decide +kernel
theorem dX4_counted_61 : decode cX4_counted 61 = .ok (.getfield 19, 3) := by decide +kernel
theorem dX4_counted_64 : decode cX4_counted 64 = .ok (.iconst 0, 1) := by decide +kernel
theorem dX4_counted_65 : decode cX4_counted 65 = .ok (.iaload, 1) := by decide +kernel
theorem dX4_counted_66 : decode cX4_counted 66 = .ok (.ireturn, 1) := by decide +kernel
theorem dX4_counted_67 : decode cX4_counted 67 = .ok (.aload_n 0, 1) := by decide +kernel
theorem dX4_counted_68 : decode cX4_counted 68 = .ok (.iconst 0, 1) := by decide +kernel
theorem dX4_counted_69 : decode cX4_counted 69 = .ok (.invokevirtual 34, 3) := by decide +kernel
theorem dX4_counted_72 : decode cX4_counted 72 = .ok (.ireturn, 1) := by decide +kernel
theorem dX4_counted_73 : decode cX4_counted 73 = .ok (.aload_n 0, 1) := by decide +kernel
theorem dX4_counted_74 : decode cX4_counted 74 = .ok (.iconst 1, 1) := by decide +kernel
theorem dX4_counted_75 : decode cX4_counted 75 = .ok (.invokevirtual 34, 3) := by decide +kernel
theorem dX4_counted_78 : decode cX4_counted 78 = .ok (.ireturn, 1) := by decide +kernel
theorem dX4_counted_79 : decode cX4_counted 79 = .ok (.aload_n 0, 1) := by decide +kernel
theorem dX4_counted_80 : decode cX4_counted 80 = .ok (.iconst 0, 1) := by decide +kernel
theorem dX4_counted_81 : decode cX4_counted 81 = .ok (.invokevirtual 44, 3) := by decide +kernel
theorem dX4_counted_84 : decode cX4_counted 84 = .ok (.ireturn, 1) := by decide +kernel
theorem dX4_counted_85 : decode cX4_counted 85 = .ok (.aload_n 0, 1) := by decide +kernel
theorem dX4_counted_86 : decode cX4_counted 86 = .ok (.iconst 1, 1) := by decide +kernel
theorem dX4_counted_87 : decode cX4_counted 87 = .ok (.invokevirtual 44, 3) := by decide +kernel
theorem dX4_counted_90 : decode cX4_counted 90 = .ok (.ireturn, 1) := by decide +kernel
theorem dX4_counted_91 : decode cX4_counted 91 = .ok (.aload_n 0, 1) := by decide +kernel
theorem dX4_counted_92 : decode cX4_counted 92 = .ok (.getfield 19, 3) := by decide +kernel
theorem dX4_counted_95 : decode cX4_counted 95 = .ok (.iconst 1, 1) := by decide +kernel
theorem dX4_counted_96 : decode cX4_counted 96 = .ok (.iaload, 1) := by decide +kernel
theorem dX4_counted_97 : decode cX4_counted 97 = .ok (.ireturn, 1) := by decide +kernel
theorem dX4_counted_98 : decode cX4_counted 98 = .ok (.aload_n 0, 1) := by decide +kernel
theorem dX4_counted_99 : decode cX4_counted 99 = .ok (.invokevirtual 86, 3) := by decide +kernel
theorem dX4_counted_102 : decode cX4_counted 102 = .ok (.ireturn, 1) := by decide +kernel
theorem dX4_counted_103 : decode cX4_counted 103 = .ok (.aload_n 0, 1) := by decide +kernel
theorem dX4_counted_104 : decode cX4_counted 104 = .ok (.getfield 19, 3) := by decide +kernel
theorem dX4_counted_107 : decode cX4_counted 107 = .ok (.iconst 2, 1) := by decide +kernel
theorem dX4_counted_108 : decode cX4_counted 108 = .ok (.iload_n 1, 1) := by decide +kernel
theorem dX4_counted_109 : decode cX4_counted 109 = .ok (.iadd, 1) := by decide +kernel
theorem dX4_counted_110 : decode cX4_counted 110 = .ok (.bipush 6, 2) := by decide +kernel
theorem dX4_counted_112 : decode cX4_counted 112 = .ok (.isub, 1) := by decide +kernel
theorem dX4_counted_113 : decode cX4_counted 113 = .ok (.iaload, 1) := by decide +kernel
theorem dX4_counted_114 : decode cX4_counted 114 = .ok (.ireturn, 1) := by decide +kernel
theorem dX4_count_0 : decode cX4_count 0 = .ok (.aload_n 0, 1) := by decide +kernel
theorem dX4_count_1 : decode cX4_count 1 = .ok (.iconst 0, 1) := by decide +kernel
theorem dX4_count_2 : decode cX4_count 2 = .ok (.putfield 22, 3) := by decide +kernel
theorem dX4_count_5 : decode cX4_count 5 = .ok (.iload_n 1, 1) := by decide +kernel
theorem dX4_count_6 : decode cX4_count 6 = .ok (.iconst 0, 1) := by decide +kernel
theorem dX4_count_7 : decode cX4_count 7 = .ok (.bipush 10, 2) := by decide +kernel
theorem dX4_count_9 : decode cX4_count 9 = .ok (.invokestatic 26, 3) := by decide +kernel
theorem dX4_count_12 : decode cX4_count 12 = .ok (.ifCond .eq 11, 3) := by decide +kernel
theorem dX4_count_15 : decode cX4_count 15 = .ok (.aload_n 0, 1) := by decide +kernel
theorem dX4_count_16 : decode cX4_count 16 = .ok (.iload_n 1, 1) := by decide +kernel
theorem dX4_count_17 : decode cX4_count 17 = .ok (.invokevirtual 126, 3) := by decide +kernel
theorem dX4_count_20 : decode cX4_count 20 = .ok (.goto 8, 3) := by decide +kernel
theorem dX4_count_23 : decode cX4_count 23 = .ok (.aload_n 0, 1) := by decide +kernel
theorem dX4_count_24 : decode cX4_count 24 = .ok (.iconst 1, 1) := by decide +kernel
theorem dX4_count_25 : decode cX4_count 25 = .ok (.invokevirtual 104, 3) := by decide +kernel
theorem dX4_count_28 : decode cX4_count 28 = .ok (.ireturn, 1) := by decide +kernel
theorem dX4_kept_0 : decode cX4_kept 0 = .ok (.iconst 4, 1) := by decide +kernel
theorem dX4_kept_1 : decode cX4_kept 1 = .ok (.anewarray 129, 3) := by decide +kernel
theorem dX4_kept_4 : decode cX4_kept 4 = .ok (.dup, 1) := by decide +kernel
theorem dX4_kept_5 : decode cX4_kept 5 = .ok (.iconst 0, 1) := by decide +kernel
theorem dX4_kept_6 : decode cX4_kept 6 = .ok (.aload_n 0, 1) := by decide +kernel
theorem dX4_kept_7 : decode cX4_kept 7 = .ok (.getfield 9, 3) := by decide +kernel
theorem dX4_kept_10 : decode cX4_kept 10 = .ok (.invokevirtual 130, 3) := by decide +kernel
theorem dX4_kept_13 : decode cX4_kept 13 = .ok (.checkcast 129, 3) := by decide +kernel
theorem dX4_kept_16 : decode cX4_kept 16 = .ok (.aastore, 1) := by decide +kernel
theorem dX4_kept_17 : decode cX4_kept 17 = .ok (.dup, 1) := by decide +kernel
theorem dX4_kept_18 : decode cX4_kept 18 = .ok (.iconst 1, 1) := by decide +kernel
theorem dX4_kept_19 : decode cX4_kept 19 = .ok (.aload_n 0, 1) := by decide +kernel
theorem dX4_kept_20 : decode cX4_kept 20 = .ok (.getfield 13, 3) := by decide +kernel
theorem dX4_kept_23 : decode cX4_kept 23 = .ok (.invokevirtual 130, 3) := by decide +kernel
theorem dX4_kept_26 : decode cX4_kept 26 = .ok (.checkcast 129, 3) := by decide +kernel
theorem dX4_kept_29 : decode cX4_kept 29 = .ok (.aastore, 1) := by decide +kernel
theorem dX4_kept_30 : decode cX4_kept 30 = .ok (.dup, 1) := by decide +kernel
theorem dX4_kept_31 : decode cX4_kept 31 = .ok (.iconst 2, 1) := by decide +kernel
theorem dX4_kept_32 : decode cX4_kept 32 = .ok (.aload_n 0, 1) := by decide +kernel
theorem dX4_kept_33 : decode cX4_kept 33 = .ok (.getfield 16, 3) := by decide +kernel
theorem dX4_kept_36 : decode cX4_kept 36 = .ok (.invokevirtual 130, 3) := by decide +kernel
theorem dX4_kept_39 : decode cX4_kept 39 = .ok (.checkcast 129, 3) := by decide +kernel
theorem dX4_kept_42 : decode cX4_kept 42 = .ok (.aastore, 1) := by decide +kernel
theorem dX4_kept_43 : decode cX4_kept 43 = .ok (.dup, 1) := by decide +kernel
theorem dX4_kept_44 : decode cX4_kept 44 = .ok (.iconst 3, 1) := by decide +kernel
theorem dX4_kept_45 : decode cX4_kept 45 = .ok (.aload_n 0, 1) := by decide +kernel
theorem dX4_kept_46 : decode cX4_kept 46 = .ok (.getfield 19, 3) := by decide +kernel
theorem dX4_kept_49 : decode cX4_kept 49 = .ok (.invokevirtual 130, 3) := by decide +kernel
theorem dX4_kept_52 : decode cX4_kept 52 = .ok (.checkcast 129, 3) := by decide +kernel
theorem dX4_kept_55 : decode cX4_kept 55 = .ok (.aastore, 1) := by decide +kernel
theorem dX4_kept_56 : decode cX4_kept 56 = .ok (.areturn, 1) := by decide +kernel
theorem dX4_bringBack_0 : decode cX4_bringBack 0 = .ok (.aload_n 1, 1) := by decide +kernel
theorem dX4_bringBack_1 : decode cX4_bringBack 1 = .ok (.iconst 0, 1) := by decide +kernel
theorem dX4_bringBack_2 : decode cX4_bringBack 2 = .ok (.aaload, 1) := by decide +kernel
theorem dX4_bringBack_3 : decode cX4_bringBack 3 = .ok (.iconst 0, 1) := by decide +kernel
theorem dX4_bringBack_4 : decode cX4_bringBack 4 = .ok (.aload_n 0, 1) := by decide +kernel
theorem dX4_bringBack_5 : decode cX4_bringBack 5 = .ok (.getfield 9, 3) := by decide +kernel
theorem dX4_bringBack_8 : decode cX4_bringBack 8 = .ok (.iconst 0, 1) := by decide +kernel
theorem dX4_bringBack_9 : decode cX4_bringBack 9 = .ok (.aload_n 0, 1) := by decide +kernel
theorem dX4_bringBack_10 : decode cX4_bringBack 10 = .ok (.getfield 9, 3) := by decide +kernel
theorem dX4_bringBack_13 : decode cX4_bringBack 13 = .ok (.arraylength, 1) := by decide +kernel
theorem dX4_bringBack_14 : decode cX4_bringBack 14 = .ok (.invokestatic 38, 3) := by decide +kernel
theorem dX4_bringBack_17 : decode cX4_bringBack 17 = .ok (.aload_n 1, 1) := by decide +kernel
theorem dX4_bringBack_18 : decode cX4_bringBack 18 = .ok (.iconst 1, 1) := by decide +kernel
theorem dX4_bringBack_19 : decode cX4_bringBack 19 = .ok (.aaload, 1) := by decide +kernel
theorem dX4_bringBack_20 : decode cX4_bringBack 20 = .ok (.iconst 0, 1) := by decide +kernel
theorem dX4_bringBack_21 : decode cX4_bringBack 21 = .ok (.aload_n 0, 1) := by decide +kernel
theorem dX4_bringBack_22 : decode cX4_bringBack 22 = .ok (.getfield 13, 3) := by decide +kernel
theorem dX4_bringBack_25 : decode cX4_bringBack 25 = .ok (.iconst 0, 1) := by decide +kernel
theorem dX4_bringBack_26 : decode cX4_bringBack 26 = .ok (.aload_n 0, 1) := by decide +kernel
theorem dX4_bringBack_27 : decode cX4_bringBack 27 = .ok (.getfield 13, 3) := by decide +kernel
theorem dX4_bringBack_30 : decode cX4_bringBack 30 = .ok (.arraylength, 1) := by decide +kernel
theorem dX4_bringBack_31 : decode cX4_bringBack 31 = .ok (.invokestatic 38, 3) := by decide +kernel
theorem dX4_bringBack_34 : decode cX4_bringBack 34 = .ok (.aload_n 1, 1) := by decide +kernel
theorem dX4_bringBack_35 : decode cX4_bringBack 35 = .ok (.iconst 2, 1) := by decide +kernel
theorem dX4_bringBack_36 : decode cX4_bringBack 36 = .ok (.aaload, 1) := by decide +kernel
theorem dX4_bringBack_37 : decode cX4_bringBack 37 = .ok (.iconst 0, 1) := by decide +kernel
theorem dX4_bringBack_38 : decode cX4_bringBack 38 = .ok (.aload_n 0, 1) := by decide +kernel
theorem dX4_bringBack_39 : decode cX4_bringBack 39 = .ok (.getfield 16, 3) := by decide +kernel
theorem dX4_bringBack_42 : decode cX4_bringBack 42 = .ok (.iconst 0, 1) := by decide +kernel
theorem dX4_bringBack_43 : decode cX4_bringBack 43 = .ok (.aload_n 0, 1) := by decide +kernel
theorem dX4_bringBack_44 : decode cX4_bringBack 44 = .ok (.getfield 16, 3) := by decide +kernel
theorem dX4_bringBack_47 : decode cX4_bringBack 47 = .ok (.arraylength, 1) := by decide +kernel
theorem dX4_bringBack_48 : decode cX4_bringBack 48 = .ok (.invokestatic 38, 3) := by decide +kernel
theorem dX4_bringBack_51 : decode cX4_bringBack 51 = .ok (.aload_n 1, 1) := by decide +kernel
theorem dX4_bringBack_52 : decode cX4_bringBack 52 = .ok (.iconst 3, 1) := by decide +kernel
theorem dX4_bringBack_53 : decode cX4_bringBack 53 = .ok (.aaload, 1) := by decide +kernel
theorem dX4_bringBack_54 : decode cX4_bringBack 54 = .ok (.iconst 0, 1) := by decide +kernel
theorem dX4_bringBack_55 : decode cX4_bringBack 55 = .ok (.aload_n 0, 1) := by decide +kernel
theorem dX4_bringBack_56 : decode cX4_bringBack 56 = .ok (.getfield 19, 3) := by decide +kernel
theorem dX4_bringBack_59 : decode cX4_bringBack 59 = .ok (.iconst 0, 1) := by decide +kernel
theorem dX4_bringBack_60 : decode cX4_bringBack 60 = .ok (.aload_n 0, 1) := by decide +kernel
theorem dX4_bringBack_61 : decode cX4_bringBack 61 = .ok (.getfield 19, 3) := by decide +kernel
theorem dX4_bringBack_64 : decode cX4_bringBack 64 = .ok (.arraylength, 1) := by decide +kernel
theorem dX4_bringBack_65 : decode cX4_bringBack 65 = .ok (.invokestatic 38, 3) := by decide +kernel
theorem dX4_bringBack_68 : decode cX4_bringBack 68 = .ok (.return_, 1) := by decide +kernel
theorem dX4_next_0 : decode cX4_next 0 = .ok (.aload_n 0, 1) := by decide +kernel
theorem dX4_next_1 : decode cX4_next 1 = .ok (.iconst 0, 1) := by decide +kernel
theorem dX4_next_2 : decode cX4_next 2 = .ok (.putfield 22, 3) := by decide +kernel
theorem dX4_next_5 : decode cX4_next 5 = .ok (.aload_n 0, 1) := by decide +kernel
theorem dX4_next_6 : decode cX4_next 6 = .ok (.invokevirtual 86, 3) := by decide +kernel
theorem dX4_next_9 : decode cX4_next 9 = .ok (.aload_n 0, 1) := by decide +kernel
theorem dX4_next_10 : decode cX4_next 10 = .ok (.invokevirtual 82, 3) := by decide +kernel
theorem dX4_next_13 : decode cX4_next 13 = .ok (.if_icmp .ne 5, 3) := by decide +kernel
theorem dX4_next_16 : decode cX4_next 16 = .ok (.iconst (-1), 1) := by decide +kernel
theorem dX4_next_17 : decode cX4_next 17 = .ok (.ireturn, 1) := by decide +kernel
theorem dX4_next_18 : decode cX4_next 18 = .ok (.aload_n 0, 1) := by decide +kernel
theorem dX4_next_19 : decode cX4_next 19 = .ok (.invokevirtual 134, 3) := by decide +kernel
theorem dX4_next_22 : decode cX4_next 22 = .ok (.astore_n 1, 1) := by decide +kernel
theorem dX4_next_23 : decode cX4_next 23 = .ok (.aload_n 0, 1) := by decide +kernel
theorem dX4_next_24 : decode cX4_next 24 = .ok (.invokevirtual 98, 3) := by decide +kernel
theorem dX4_next_27 : decode cX4_next 27 = .ok (.istore_n 2, 1) := by decide +kernel
theorem dX4_next_28 : decode cX4_next 28 = .ok (.aload_n 0, 1) := by decide +kernel
theorem dX4_next_29 : decode cX4_next 29 = .ok (.aload_n 1, 1) := by decide +kernel
theorem dX4_next_30 : decode cX4_next 30 = .ok (.invokevirtual 138, 3) := by decide +kernel
theorem dX4_next_33 : decode cX4_next 33 = .ok (.iload_n 2, 1) := by decide +kernel
theorem dX4_next_34 : decode cX4_next 34 = .ok (.ireturn, 1) := by decide +kernel
theorem dX4_would_0 : decode cX4_would 0 = .ok (.aload_n 0, 1) := by decide +kernel
theorem dX4_would_1 : decode cX4_would 1 = .ok (.iconst 0, 1) := by decide +kernel
theorem dX4_would_2 : decode cX4_would 2 = .ok (.putfield 22, 3) := by decide +kernel
theorem dX4_would_5 : decode cX4_would 5 = .ok (.iload_n 1, 1) := by decide +kernel
theorem dX4_would_6 : decode cX4_would 6 = .ok (.invokestatic 101, 3) := by decide +kernel
theorem dX4_would_9 : decode cX4_would 9 = .ok (.ifCond .ne 9, 3) := by decide +kernel
theorem dX4_would_12 : decode cX4_would 12 = .ok (.aload_n 0, 1) := by decide +kernel
theorem dX4_would_13 : decode cX4_would 13 = .ok (.iconst 1, 1) := by decide +kernel
theorem dX4_would_14 : decode cX4_would 14 = .ok (.invokevirtual 104, 3) := by decide +kernel
theorem dX4_would_17 : decode cX4_would 17 = .ok (.ireturn, 1) := by decide +kernel
theorem dX4_would_18 : decode cX4_would 18 = .ok (.aload_n 0, 1) := by decide +kernel
theorem dX4_would_19 : decode cX4_would 19 = .ok (.iload_n 1, 1) := by decide +kernel
theorem dX4_would_20 : decode cX4_would 20 = .ok (.invokevirtual 107, 3) := by decide +kernel
theorem dX4_would_23 : decode cX4_would 23 = .ok (.ifCond .eq 11, 3) := by decide +kernel
theorem dX4_would_26 : decode cX4_would 26 = .ok (.aload_n 0, 1) := by decide +kernel
theorem dX4_would_27 : decode cX4_would 27 = .ok (.iload_n 1, 1) := by decide +kernel
theorem dX4_would_28 : decode cX4_would 28 = .ok (.invokevirtual 142, 3) := by decide +kernel
theorem dX4_would_31 : decode cX4_would 31 = .ok (.goto 5, 3) := by decide +kernel
theorem dX4_would_34 : decode cX4_would 34 = .ok (.bipush (-9), 2) := by decide +kernel
theorem dX4_would_36 : decode cX4_would 36 = .ok (.ireturn, 1) := by decide +kernel
theorem dX4_trial_0 : decode cX4_trial 0 = .ok (.aload_n 0, 1) := by decide +kernel
theorem dX4_trial_1 : decode cX4_trial 1 = .ok (.aload_n 0, 1) := by decide +kernel
theorem dX4_trial_2 : decode cX4_trial 2 = .ok (.iload_n 1, 1) := by decide +kernel
theorem dX4_trial_3 : decode cX4_trial 3 = .ok (.iload_n 2, 1) := by decide +kernel
theorem dX4_trial_4 : decode cX4_trial 4 = .ok (.iload_n 3, 1) := by decide +kernel
theorem dX4_trial_5 : decode cX4_trial 5 = .ok (.invokevirtual 113, 3) := by decide +kernel
theorem dX4_trial_8 : decode cX4_trial 8 = .ok (.putfield 22, 3) := by decide +kernel
theorem dX4_trial_11 : decode cX4_trial 11 = .ok (.aload_n 0, 1) := by decide +kernel
theorem dX4_trial_12 : decode cX4_trial 12 = .ok (.getfield 22, 3) := by decide +kernel
theorem dX4_trial_15 : decode cX4_trial 15 = .ok (.ifCond .eq 5, 3) := by decide +kernel
theorem dX4_trial_18 : decode cX4_trial 18 = .ok (.iconst 0, 1) := by decide +kernel
theorem dX4_trial_19 : decode cX4_trial 19 = .ok (.ireturn, 1) := by decide +kernel
theorem dX4_trial_20 : decode cX4_trial 20 = .ok (.aload_n 0, 1) := by decide +kernel
theorem dX4_trial_21 : decode cX4_trial 21 = .ok (.invokevirtual 134, 3) := by decide +kernel
theorem dX4_trial_24 : decode cX4_trial 24 = .ok (.astore 4, 2) := by decide +kernel
theorem dX4_trial_26 : decode cX4_trial 26 = .ok (.aload_n 0, 1) := by decide +kernel
theorem dX4_trial_27 : decode cX4_trial 27 = .ok (.iload_n 1, 1) := by decide +kernel
theorem dX4_trial_28 : decode cX4_trial 28 = .ok (.iload_n 2, 1) := by decide +kernel
theorem dX4_trial_29 : decode cX4_trial 29 = .ok (.iload_n 3, 1) := by decide +kernel
theorem dX4_trial_30 : decode cX4_trial 30 = .ok (.invokevirtual 117, 3) := by decide +kernel
theorem dX4_trial_33 : decode cX4_trial 33 = .ok (.istore 5, 2) := by decide +kernel
theorem dX4_trial_35 : decode cX4_trial 35 = .ok (.aload_n 0, 1) := by decide +kernel
theorem dX4_trial_36 : decode cX4_trial 36 = .ok (.aload 4, 2) := by decide +kernel
theorem dX4_trial_38 : decode cX4_trial 38 = .ok (.invokevirtual 138, 3) := by decide +kernel
theorem dX4_trial_41 : decode cX4_trial 41 = .ok (.iload 5, 2) := by decide +kernel
theorem dX4_trial_43 : decode cX4_trial 43 = .ok (.ireturn, 1) := by decide +kernel
theorem dX4_advise_0 : decode cX4_advise 0 = .ok (.aload_n 0, 1) := by decide +kernel
theorem dX4_advise_1 : decode cX4_advise 1 = .ok (.aload_n 0, 1) := by decide +kernel
theorem dX4_advise_2 : decode cX4_advise 2 = .ok (.iload_n 1, 1) := by decide +kernel
theorem dX4_advise_3 : decode cX4_advise 3 = .ok (.iload_n 2, 1) := by decide +kernel
theorem dX4_advise_4 : decode cX4_advise 4 = .ok (.iload_n 3, 1) := by decide +kernel
theorem dX4_advise_5 : decode cX4_advise 5 = .ok (.invokevirtual 113, 3) := by decide +kernel
theorem dX4_advise_8 : decode cX4_advise 8 = .ok (.putfield 22, 3) := by decide +kernel
theorem dX4_advise_11 : decode cX4_advise 11 = .ok (.aload_n 0, 1) := by decide +kernel
theorem dX4_advise_12 : decode cX4_advise 12 = .ok (.getfield 22, 3) := by decide +kernel
theorem dX4_advise_15 : decode cX4_advise 15 = .ok (.ifCond .eq 5, 3) := by decide +kernel
theorem dX4_advise_18 : decode cX4_advise 18 = .ok (.iconst 0, 1) := by decide +kernel
theorem dX4_advise_19 : decode cX4_advise 19 = .ok (.ireturn, 1) := by decide +kernel
theorem dX4_advise_20 : decode cX4_advise 20 = .ok (.aload_n 0, 1) := by decide +kernel
theorem dX4_advise_21 : decode cX4_advise 21 = .ok (.invokevirtual 134, 3) := by decide +kernel
theorem dX4_advise_24 : decode cX4_advise 24 = .ok (.astore 4, 2) := by decide +kernel
theorem dX4_advise_26 : decode cX4_advise 26 = .ok (.iconst (-1), 1) := by decide +kernel
theorem dX4_advise_27 : decode cX4_advise 27 = .ok (.istore 5, 2) := by decide +kernel
theorem dX4_advise_29 : decode cX4_advise 29 = .ok (.iconst (-1), 1) := by decide +kernel
theorem dX4_advise_30 : decode cX4_advise 30 = .ok (.istore 6, 2) := by decide +kernel
theorem dX4_advise_32 : decode cX4_advise 32 = .ok (.iconst 2, 1) := by decide +kernel
theorem dX4_advise_33 : decode cX4_advise 33 = .ok (.aload_n 0, 1) := by decide +kernel
theorem dX4_advise_34 : decode cX4_advise 34 = .ok (.invokevirtual 86, 3) := by decide +kernel
theorem dX4_advise_37 : decode cX4_advise 37 = .ok (.invokestatic 68, 3) := by decide +kernel
theorem dX4_advise_40 : decode cX4_advise 40 = .ok (.istore 7, 2) := by decide +kernel
theorem dX4_advise_42 : decode cX4_advise 42 = .ok (.iload 7, 2) := by decide +kernel
theorem dX4_advise_44 : decode cX4_advise 44 = .ok (.bipush 12, 2) := by decide +kernel
theorem dX4_advise_46 : decode cX4_advise 46 = .ok (.if_icmp .gt 48, 3) := by decide +kernel
theorem dX4_advise_49 : decode cX4_advise 49 = .ok (.aload_n 0, 1) := by decide +kernel
theorem dX4_advise_50 : decode cX4_advise 50 = .ok (.iload 7, 2) := by decide +kernel
theorem dX4_advise_52 : decode cX4_advise 52 = .ok (.invokevirtual 123, 3) := by decide +kernel
theorem dX4_advise_55 : decode cX4_advise 55 = .ok (.aload_n 0, 1) := by decide +kernel
theorem dX4_advise_56 : decode cX4_advise 56 = .ok (.iload_n 1, 1) := by decide +kernel
theorem dX4_advise_57 : decode cX4_advise 57 = .ok (.iload_n 2, 1) := by decide +kernel
theorem dX4_advise_58 : decode cX4_advise 58 = .ok (.iload_n 3, 1) := by decide +kernel
theorem dX4_advise_59 : decode cX4_advise 59 = .ok (.invokevirtual 117, 3) := by decide +kernel
theorem dX4_advise_62 : decode cX4_advise 62 = .ok (.istore 8, 2) := by decide +kernel
theorem dX4_advise_64 : decode cX4_advise 64 = .ok (.aload_n 0, 1) := by decide +kernel
theorem dX4_advise_65 : decode cX4_advise 65 = .ok (.aload 4, 2) := by decide +kernel
theorem dX4_advise_67 : decode cX4_advise 67 = .ok (.invokevirtual 138, 3) := by decide +kernel
theorem dX4_advise_70 : decode cX4_advise 70 = .ok (.iload 8, 2) := by decide +kernel
theorem dX4_advise_72 : decode cX4_advise 72 = .ok (.iload 6, 2) := by decide +kernel
theorem dX4_advise_74 : decode cX4_advise 74 = .ok (.if_icmp .gt 6, 3) := by decide +kernel
theorem dX4_advise_77 : decode cX4_advise 77 = .ok (.goto 11, 3) := by decide +kernel
theorem dX4_advise_80 : decode cX4_advise 80 = .ok (.iload 7, 2) := by decide +kernel
theorem dX4_advise_82 : decode cX4_advise 82 = .ok (.istore 5, 2) := by decide +kernel
theorem dX4_advise_84 : decode cX4_advise 84 = .ok (.iload 8, 2) := by decide +kernel
theorem dX4_advise_86 : decode cX4_advise 86 = .ok (.istore 6, 2) := by decide +kernel
theorem dX4_advise_88 : decode cX4_advise 88 = .ok (.iinc 7 1, 3) := by decide +kernel
theorem dX4_advise_91 : decode cX4_advise 91 = .ok (.goto (-49), 3) := by decide +kernel
theorem dX4_advise_94 : decode cX4_advise 94 = .ok (.iload 5, 2) := by decide +kernel
theorem dX4_advise_96 : decode cX4_advise 96 = .ok (.ireturn, 1) := by decide +kernel
theorem dX4_mean_0 : decode cX4_mean 0 = .ok (.aload_n 0, 1) := by decide +kernel
theorem dX4_mean_1 : decode cX4_mean 1 = .ok (.iconst 0, 1) := by decide +kernel
theorem dX4_mean_2 : decode cX4_mean 2 = .ok (.putfield 22, 3) := by decide +kernel
theorem dX4_mean_5 : decode cX4_mean 5 = .ok (.iconst 0, 1) := by decide +kernel
theorem dX4_mean_6 : decode cX4_mean 6 = .ok (.istore_n 1, 1) := by decide +kernel
theorem dX4_mean_7 : decode cX4_mean 7 = .ok (.iconst 0, 1) := by decide +kernel
theorem dX4_mean_8 : decode cX4_mean 8 = .ok (.istore_n 2, 1) := by decide +kernel
theorem dX4_mean_9 : decode cX4_mean 9 = .ok (.iload_n 2, 1) := by decide +kernel
theorem dX4_mean_10 : decode cX4_mean 10 = .ok (.bipush 40, 2) := by decide +kernel
theorem dX4_mean_12 : decode cX4_mean 12 = .ok (.if_icmp .ge 30, 3) := by decide +kernel
theorem dX4_mean_15 : decode cX4_mean 15 = .ok (.iload_n 1, 1) := by decide +kernel
theorem dX4_mean_16 : decode cX4_mean 16 = .ok (.aload_n 0, 1) := by decide +kernel
theorem dX4_mean_17 : decode cX4_mean 17 = .ok (.iload_n 2, 1) := by decide +kernel
theorem dX4_mean_18 : decode cX4_mean 18 = .ok (.invokevirtual 61, 3) := by decide +kernel
theorem dX4_mean_21 : decode cX4_mean 21 = .ok (.ifCond .eq 12, 3) := by decide +kernel
theorem dX4_mean_24 : decode cX4_mean 24 = .ok (.aload_n 0, 1) := by decide +kernel
theorem dX4_mean_25 : decode cX4_mean 25 = .ok (.iload_n 2, 1) := by decide +kernel
theorem dX4_mean_26 : decode cX4_mean 26 = .ok (.iconst 3, 1) := by decide +kernel
theorem dX4_mean_27 : decode cX4_mean 27 = .ok (.invokevirtual 30, 3) := by decide +kernel
theorem dX4_mean_30 : decode cX4_mean 30 = .ok (.goto 4, 3) := by decide +kernel
theorem dX4_mean_33 : decode cX4_mean 33 = .ok (.iconst 0, 1) := by decide +kernel
theorem dX4_mean_34 : decode cX4_mean 34 = .ok (.iadd, 1) := by decide +kernel
theorem dX4_mean_35 : decode cX4_mean 35 = .ok (.istore_n 1, 1) := by decide +kernel
theorem dX4_mean_36 : decode cX4_mean 36 = .ok (.iinc 2 1, 3) := by decide +kernel
theorem dX4_mean_39 : decode cX4_mean 39 = .ok (.goto (-30), 3) := by decide +kernel
theorem dX4_mean_42 : decode cX4_mean 42 = .ok (.aload_n 0, 1) := by decide +kernel
theorem dX4_mean_43 : decode cX4_mean 43 = .ok (.invokevirtual 82, 3) := by decide +kernel
theorem dX4_mean_46 : decode cX4_mean 46 = .ok (.ifCond .ne 7, 3) := by decide +kernel
theorem dX4_mean_49 : decode cX4_mean 49 = .ok (.dconst 0, 1) := by decide +kernel
theorem dX4_mean_50 : decode cX4_mean 50 = .ok (.goto 11, 3) := by decide +kernel
theorem dX4_mean_53 : decode cX4_mean 53 = .ok (.iload_n 1, 1) := by decide +kernel
theorem dX4_mean_54 : decode cX4_mean 54 = .ok (.i2d, 1) := by decide +kernel
theorem dX4_mean_55 : decode cX4_mean 55 = .ok (.aload_n 0, 1) := by decide +kernel
theorem dX4_mean_56 : decode cX4_mean 56 = .ok (.invokevirtual 82, 3) := by decide +kernel
theorem dX4_mean_59 : decode cX4_mean 59 = .ok (.i2d, 1) := by decide +kernel
theorem dX4_mean_60 : decode cX4_mean 60 = .ok (.ddiv, 1) := by decide +kernel
theorem dX4_mean_61 : decode cX4_mean 61 = .ok (.dreturn, 1) := by decide +kernel
theorem dX4_digest_0 : decode cX4_digest 0 = .ok (.aload_n 0, 1) := by decide +kernel
theorem dX4_digest_1 : decode cX4_digest 1 = .ok (.iconst 0, 1) := by decide +kernel
theorem dX4_digest_2 : decode cX4_digest 2 = .ok (.putfield 22, 3) := by decide +kernel
theorem dX4_digest_5 : decode cX4_digest 5 = .ok (.ldc2_w 145, 3) := by decide +kernel
theorem dX4_digest_8 : decode cX4_digest 8 = .ok (.lstore_n 1, 1) := by decide +kernel
theorem dX4_digest_9 : decode cX4_digest 9 = .ok (.iconst 0, 1) := by decide +kernel
theorem dX4_digest_10 : decode cX4_digest 10 = .ok (.istore_n 3, 1) := by decide +kernel
theorem dX4_digest_11 : decode cX4_digest 11 = .ok (.iload_n 3, 1) := by decide +kernel
theorem dX4_digest_12 : decode cX4_digest 12 = .ok (.bipush 11, 2) := by decide +kernel
theorem dX4_digest_14 : decode cX4_digest 14 = .ok (.if_icmp .ge 22, 3) := by decide +kernel
theorem dX4_digest_17 : decode cX4_digest 17 = .ok (.lload_n 1, 1) := by decide +kernel
theorem dX4_digest_18 : decode cX4_digest 18 = .ok (.ldc2_w 147, 3) := by decide +kernel
theorem dX4_digest_21 : decode cX4_digest 21 = .ok (.lmul, 1) := by decide +kernel
theorem dX4_digest_22 : decode cX4_digest 22 = .ok (.aload_n 0, 1) := by decide +kernel
theorem dX4_digest_23 : decode cX4_digest 23 = .ok (.iload_n 3, 1) := by decide +kernel
theorem dX4_digest_24 : decode cX4_digest 24 = .ok (.invokevirtual 126, 3) := by decide +kernel
theorem dX4_digest_27 : decode cX4_digest 27 = .ok (.i2l, 1) := by decide +kernel
theorem dX4_digest_28 : decode cX4_digest 28 = .ok (.ladd, 1) := by decide +kernel
theorem dX4_digest_29 : decode cX4_digest 29 = .ok (.lstore_n 1, 1) := by decide +kernel
theorem dX4_digest_30 : decode cX4_digest 30 = .ok (.iinc 3 1, 3) := by decide +kernel
theorem dX4_digest_33 : decode cX4_digest 33 = .ok (.goto (-22), 3) := by decide +kernel
theorem dX4_digest_36 : decode cX4_digest 36 = .ok (.iconst 0, 1) := by decide +kernel
theorem dX4_digest_37 : decode cX4_digest 37 = .ok (.istore_n 3, 1) := by decide +kernel
theorem dX4_digest_38 : decode cX4_digest 38 = .ok (.iload_n 3, 1) := by decide +kernel
theorem dX4_digest_39 : decode cX4_digest 39 = .ok (.iconst 2, 1) := by decide +kernel
theorem dX4_digest_40 : decode cX4_digest 40 = .ok (.if_icmp .ge 112, 3) := by decide +kernel
theorem dX4_digest_43 : decode cX4_digest 43 = .ok (.iconst 0, 1) := by decide +kernel
theorem dX4_digest_44 : decode cX4_digest 44 = .ok (.istore 4, 2) := by decide +kernel
theorem dX4_digest_46 : decode cX4_digest 46 = .ok (.iload 4, 2) := by decide +kernel
theorem dX4_digest_48 : decode cX4_digest 48 = .ok (.aload_n 0, 1) := by decide +kernel
theorem dX4_digest_49 : decode cX4_digest 49 = .ok (.iload_n 3, 1) := by decide +kernel
theorem dX4_digest_50 : decode cX4_digest 50 = .ok (.invokevirtual 34, 3) := by decide +kernel
theorem dX4_digest_53 : decode cX4_digest 53 = .ok (.if_icmp .ge 59, 3) := by decide +kernel
theorem dX4_digest_56 : decode cX4_digest 56 = .ok (.aload_n 0, 1) := by decide +kernel
theorem dX4_digest_57 : decode cX4_digest 57 = .ok (.iload_n 3, 1) := by decide +kernel
theorem dX4_digest_58 : decode cX4_digest 58 = .ok (.iload 4, 2) := by decide +kernel
theorem dX4_digest_60 : decode cX4_digest 60 = .ok (.invokevirtual 58, 3) := by decide +kernel
theorem dX4_digest_63 : decode cX4_digest 63 = .ok (.istore 5, 2) := by decide +kernel
theorem dX4_digest_65 : decode cX4_digest 65 = .ok (.lload_n 1, 1) := by decide +kernel
theorem dX4_digest_66 : decode cX4_digest 66 = .ok (.ldc2_w 147, 3) := by decide +kernel
theorem dX4_digest_69 : decode cX4_digest 69 = .ok (.lmul, 1) := by decide +kernel
theorem dX4_digest_70 : decode cX4_digest 70 = .ok (.iload 5, 2) := by decide +kernel
theorem dX4_digest_72 : decode cX4_digest 72 = .ok (.i2l, 1) := by decide +kernel
theorem dX4_digest_73 : decode cX4_digest 73 = .ok (.ladd, 1) := by decide +kernel
theorem dX4_digest_74 : decode cX4_digest 74 = .ok (.lstore_n 1, 1) := by decide +kernel
theorem dX4_digest_75 : decode cX4_digest 75 = .ok (.iconst 1, 1) := by decide +kernel
theorem dX4_digest_76 : decode cX4_digest 76 = .ok (.istore 6, 2) := by decide +kernel
theorem dX4_digest_78 : decode cX4_digest 78 = .ok (.iload 6, 2) := by decide +kernel
theorem dX4_digest_80 : decode cX4_digest 80 = .ok (.iconst 4, 1) := by decide +kernel
theorem dX4_digest_81 : decode cX4_digest 81 = .ok (.if_icmp .ge 25, 3) := by decide +kernel
theorem dX4_digest_84 : decode cX4_digest 84 = .ok (.lload_n 1, 1) := by decide +kernel
theorem dX4_digest_85 : decode cX4_digest 85 = .ok (.ldc2_w 147, 3) := by decide +kernel
theorem dX4_digest_88 : decode cX4_digest 88 = .ok (.lmul, 1) := by decide +kernel
theorem dX4_digest_89 : decode cX4_digest 89 = .ok (.aload_n 0, 1) := by decide +kernel
theorem dX4_digest_90 : decode cX4_digest 90 = .ok (.iload 5, 2) := by decide +kernel
theorem dX4_digest_92 : decode cX4_digest 92 = .ok (.iload 6, 2) := by decide +kernel
theorem dX4_digest_94 : decode cX4_digest 94 = .ok (.invokevirtual 30, 3) := by decide +kernel
theorem dX4_digest_97 : decode cX4_digest 97 = .ok (.i2l, 1) := by decide +kernel
theorem dX4_digest_98 : decode cX4_digest 98 = .ok (.ladd, 1) := by decide +kernel
theorem dX4_digest_99 : decode cX4_digest 99 = .ok (.lstore_n 1, 1) := by decide +kernel
theorem dX4_digest_100 : decode cX4_digest 100 = .ok (.iinc 6 1, 3) := by decide +kernel
theorem dX4_digest_103 : decode cX4_digest 103 = .ok (.goto (-25), 3) := by decide +kernel
theorem dX4_digest_106 : decode cX4_digest 106 = .ok (.iinc 4 1, 3) := by decide +kernel
theorem dX4_digest_109 : decode cX4_digest 109 = .ok (.goto (-63), 3) := by decide +kernel
theorem dX4_digest_112 : decode cX4_digest 112 = .ok (.iconst 0, 1) := by decide +kernel
theorem dX4_digest_113 : decode cX4_digest 113 = .ok (.istore 4, 2) := by decide +kernel
theorem dX4_digest_115 : decode cX4_digest 115 = .ok (.iload 4, 2) := by decide +kernel
theorem dX4_digest_117 : decode cX4_digest 117 = .ok (.aload_n 0, 1) := by decide +kernel
theorem dX4_digest_118 : decode cX4_digest 118 = .ok (.iload_n 3, 1) := by decide +kernel
theorem dX4_digest_119 : decode cX4_digest 119 = .ok (.invokevirtual 44, 3) := by decide +kernel
theorem dX4_digest_122 : decode cX4_digest 122 = .ok (.if_icmp .ge 24, 3) := by decide +kernel
theorem dX4_digest_125 : decode cX4_digest 125 = .ok (.lload_n 1, 1) := by decide +kernel
theorem dX4_digest_126 : decode cX4_digest 126 = .ok (.ldc2_w 147, 3) := by decide +kernel
theorem dX4_digest_129 : decode cX4_digest 129 = .ok (.lmul, 1) := by decide +kernel
theorem dX4_digest_130 : decode cX4_digest 130 = .ok (.aload_n 0, 1) := by decide +kernel
theorem dX4_digest_131 : decode cX4_digest 131 = .ok (.iload_n 3, 1) := by decide +kernel
theorem dX4_digest_132 : decode cX4_digest 132 = .ok (.iload 4, 2) := by decide +kernel
theorem dX4_digest_134 : decode cX4_digest 134 = .ok (.invokevirtual 55, 3) := by decide +kernel
theorem dX4_digest_137 : decode cX4_digest 137 = .ok (.i2l, 1) := by decide +kernel
theorem dX4_digest_138 : decode cX4_digest 138 = .ok (.ladd, 1) := by decide +kernel
theorem dX4_digest_139 : decode cX4_digest 139 = .ok (.lstore_n 1, 1) := by decide +kernel
theorem dX4_digest_140 : decode cX4_digest 140 = .ok (.iinc 4 1, 3) := by decide +kernel
theorem dX4_digest_143 : decode cX4_digest 143 = .ok (.goto (-28), 3) := by decide +kernel
theorem dX4_digest_146 : decode cX4_digest 146 = .ok (.iinc 3 1, 3) := by decide +kernel
theorem dX4_digest_149 : decode cX4_digest 149 = .ok (.goto (-111), 3) := by decide +kernel
theorem dX4_digest_152 : decode cX4_digest 152 = .ok (.lload_n 1, 1) := by decide +kernel
theorem dX4_digest_153 : decode cX4_digest 153 = .ok (.lreturn, 1) := by decide +kernel
end
section
theorem dL_fetch_0 : decode cL_fetch 0 = .ok (.aload_n 2, 1) := by decide +kernel
theorem dL_fetch_1 : decode cL_fetch 1 = .ok (.iconst 0, 1) := by decide +kernel
theorem dL_fetch_2 : decode cL_fetch 2 = .ok (.aload_n 0, 1) := by decide +kernel
theorem dL_fetch_3 : decode cL_fetch 3 = .ok (.iload_n 1, 1) := by decide +kernel
theorem dL_fetch_4 : decode cL_fetch 4 = .ok (.invokevirtual 7, 3) := by decide +kernel
theorem dL_fetch_7 : decode cL_fetch 7 = .ok (.i2l, 1) := by decide +kernel
theorem dL_fetch_8 : decode cL_fetch 8 = .ok (.lastore, 1) := by decide +kernel
theorem dL_fetch_9 : decode cL_fetch 9 = .ok (.goto 9, 3) := by decide +kernel
theorem dL_fetch_12 : decode cL_fetch 12 = .ok (.astore_n 3, 1) := by decide +kernel
theorem dL_fetch_13 : decode cL_fetch 13 = .ok (.iconst 1, 1) := by decide +kernel
theorem dL_fetch_14 : decode cL_fetch 14 = .ok (.ireturn, 1) := by decide +kernel
theorem dL_fetch_15 : decode cL_fetch 15 = .ok (.astore_n 3, 1) := by decide +kernel
theorem dL_fetch_16 : decode cL_fetch 16 = .ok (.iconst 2, 1) := by decide +kernel
theorem dL_fetch_17 : decode cL_fetch 17 = .ok (.ireturn, 1) := by decide +kernel
theorem dL_fetch_18 : decode cL_fetch 18 = .ok (.iconst 0, 1) := by decide +kernel
theorem dL_fetch_19 : decode cL_fetch 19 = .ok (.ireturn, 1) := by decide +kernel
theorem dL_fetchAll_0 : decode cL_fetchAll 0 = .ok (.aload 4, 2) := by decide +kernel
theorem dL_fetchAll_2 : decode cL_fetchAll 2 = .ok (.iconst 0, 1) := by decide +kernel
theorem dL_fetchAll_3 : decode cL_fetchAll 3 = .ok (.aload_n 0, 1) := by decide +kernel
theorem dL_fetchAll_4 : decode cL_fetchAll 4 = .ok (.iload_n 1, 1) := by decide +kernel
theorem dL_fetchAll_5 : decode cL_fetchAll 5 = .ok (.iload_n 2, 1) := by decide +kernel
theorem dL_fetchAll_6 : decode cL_fetchAll 6 = .ok (.iload_n 3, 1) := by decide +kernel
theorem dL_fetchAll_7 : decode cL_fetchAll 7 = .ok (.invokevirtual 17, 3) := by decide +kernel
theorem dL_fetchAll_10 : decode cL_fetchAll 10 = .ok (.i2l, 1) := by decide +kernel
theorem dL_fetchAll_11 : decode cL_fetchAll 11 = .ok (.lastore, 1) := by decide +kernel
theorem dL_fetchAll_12 : decode cL_fetchAll 12 = .ok (.goto 11, 3) := by decide +kernel
theorem dL_fetchAll_15 : decode cL_fetchAll 15 = .ok (.astore 5, 2) := by decide +kernel
theorem dL_fetchAll_17 : decode cL_fetchAll 17 = .ok (.iconst 1, 1) := by decide +kernel
theorem dL_fetchAll_18 : decode cL_fetchAll 18 = .ok (.ireturn, 1) := by decide +kernel
theorem dL_fetchAll_19 : decode cL_fetchAll 19 = .ok (.astore 5, 2) := by decide +kernel
theorem dL_fetchAll_21 : decode cL_fetchAll 21 = .ok (.iconst 2, 1) := by decide +kernel
theorem dL_fetchAll_22 : decode cL_fetchAll 22 = .ok (.ireturn, 1) := by decide +kernel
theorem dL_fetchAll_23 : decode cL_fetchAll 23 = .ok (.iconst 0, 1) := by decide +kernel
theorem dL_fetchAll_24 : decode cL_fetchAll 24 = .ok (.ireturn, 1) := by decide +kernel
theorem dL_pin_0 : decode cL_pin 0 = .ok (.aload_n 2, 1) := by decide +kernel
theorem dL_pin_1 : decode cL_pin 1 = .ok (.iconst 0, 1) := by decide +kernel
theorem dL_pin_2 : decode cL_pin 2 = .ok (.aload_n 0, 1) := by decide +kernel
theorem dL_pin_3 : decode cL_pin 3 = .ok (.iload_n 1, 1) := by decide +kernel
theorem dL_pin_4 : decode cL_pin 4 = .ok (.invokevirtual 23, 3) := by decide +kernel
theorem dL_pin_7 : decode cL_pin 7 = .ok (.i2l, 1) := by decide +kernel
theorem dL_pin_8 : decode cL_pin 8 = .ok (.lastore, 1) := by decide +kernel
theorem dL_pin_9 : decode cL_pin 9 = .ok (.goto 9, 3) := by decide +kernel
theorem dL_pin_12 : decode cL_pin 12 = .ok (.astore_n 3, 1) := by decide +kernel
theorem dL_pin_13 : decode cL_pin 13 = .ok (.iconst 1, 1) := by decide +kernel
theorem dL_pin_14 : decode cL_pin 14 = .ok (.ireturn, 1) := by decide +kernel
theorem dL_pin_15 : decode cL_pin 15 = .ok (.astore_n 3, 1) := by decide +kernel
theorem dL_pin_16 : decode cL_pin 16 = .ok (.iconst 2, 1) := by decide +kernel
theorem dL_pin_17 : decode cL_pin 17 = .ok (.ireturn, 1) := by decide +kernel
theorem dL_pin_18 : decode cL_pin 18 = .ok (.iconst 0, 1) := by decide +kernel
theorem dL_pin_19 : decode cL_pin 19 = .ok (.ireturn, 1) := by decide +kernel
theorem dL_unpin_0 : decode cL_unpin 0 = .ok (.aload_n 2, 1) := by decide +kernel
theorem dL_unpin_1 : decode cL_unpin 1 = .ok (.iconst 0, 1) := by decide +kernel
theorem dL_unpin_2 : decode cL_unpin 2 = .ok (.aload_n 0, 1) := by decide +kernel
theorem dL_unpin_3 : decode cL_unpin 3 = .ok (.iload_n 1, 1) := by decide +kernel
theorem dL_unpin_4 : decode cL_unpin 4 = .ok (.invokevirtual 26, 3) := by decide +kernel
theorem dL_unpin_7 : decode cL_unpin 7 = .ok (.i2l, 1) := by decide +kernel
theorem dL_unpin_8 : decode cL_unpin 8 = .ok (.lastore, 1) := by decide +kernel
theorem dL_unpin_9 : decode cL_unpin 9 = .ok (.goto 9, 3) := by decide +kernel
theorem dL_unpin_12 : decode cL_unpin 12 = .ok (.astore_n 3, 1) := by decide +kernel
theorem dL_unpin_13 : decode cL_unpin 13 = .ok (.iconst 1, 1) := by decide +kernel
theorem dL_unpin_14 : decode cL_unpin 14 = .ok (.ireturn, 1) := by decide +kernel
theorem dL_unpin_15 : decode cL_unpin 15 = .ok (.astore_n 3, 1) := by decide +kernel
theorem dL_unpin_16 : decode cL_unpin 16 = .ok (.iconst 2, 1) := by decide +kernel
theorem dL_unpin_17 : decode cL_unpin 17 = .ok (.ireturn, 1) := by decide +kernel
theorem dL_unpin_18 : decode cL_unpin 18 = .ok (.iconst 0, 1) := by decide +kernel
theorem dL_unpin_19 : decode cL_unpin 19 = .ok (.ireturn, 1) := by decide +kernel
theorem dL_eat_0 : decode cL_eat 0 = .ok (.aload_n 2, 1) := by decide +kernel
theorem dL_eat_1 : decode cL_eat 1 = .ok (.iconst 0, 1) := by decide +kernel
theorem dL_eat_2 : decode cL_eat 2 = .ok (.aload_n 0, 1) := by decide +kernel
theorem dL_eat_3 : decode cL_eat 3 = .ok (.iload_n 1, 1) := by decide +kernel
theorem dL_eat_4 : decode cL_eat 4 = .ok (.invokevirtual 29, 3) := by decide +kernel
theorem dL_eat_7 : decode cL_eat 7 = .ok (.i2l, 1) := by decide +kernel
theorem dL_eat_8 : decode cL_eat 8 = .ok (.lastore, 1) := by decide +kernel
theorem dL_eat_9 : decode cL_eat 9 = .ok (.goto 9, 3) := by decide +kernel
theorem dL_eat_12 : decode cL_eat 12 = .ok (.astore_n 3, 1) := by decide +kernel
theorem dL_eat_13 : decode cL_eat 13 = .ok (.iconst 1, 1) := by decide +kernel
theorem dL_eat_14 : decode cL_eat 14 = .ok (.ireturn, 1) := by decide +kernel
theorem dL_eat_15 : decode cL_eat 15 = .ok (.astore_n 3, 1) := by decide +kernel
theorem dL_eat_16 : decode cL_eat 16 = .ok (.iconst 2, 1) := by decide +kernel
theorem dL_eat_17 : decode cL_eat 17 = .ok (.ireturn, 1) := by decide +kernel
theorem dL_eat_18 : decode cL_eat 18 = .ok (.iconst 0, 1) := by decide +kernel
theorem dL_eat_19 : decode cL_eat 19 = .ok (.ireturn, 1) := by decide +kernel
theorem dL_setPlaces_0 : decode cL_setPlaces 0 = .ok (.aload_n 2, 1) := by decide +kernel
theorem dL_setPlaces_1 : decode cL_setPlaces 1 = .ok (.iconst 0, 1) := by decide +kernel
theorem dL_setPlaces_2 : decode cL_setPlaces 2 = .ok (.aload_n 0, 1) := by decide +kernel
theorem dL_setPlaces_3 : decode cL_setPlaces 3 = .ok (.iload_n 1, 1) := by decide +kernel
theorem dL_setPlaces_4 : decode cL_setPlaces 4 = .ok (.invokevirtual 32, 3) := by decide +kernel
theorem dL_setPlaces_7 : decode cL_setPlaces 7 = .ok (.i2l, 1) := by decide +kernel
theorem dL_setPlaces_8 : decode cL_setPlaces 8 = .ok (.lastore, 1) := by decide +kernel
theorem dL_setPlaces_9 : decode cL_setPlaces 9 = .ok (.goto 9, 3) := by decide +kernel
theorem dL_setPlaces_12 : decode cL_setPlaces 12 = .ok (.astore_n 3, 1) := by decide +kernel
theorem dL_setPlaces_13 : decode cL_setPlaces 13 = .ok (.iconst 1, 1) := by decide +kernel
theorem dL_setPlaces_14 : decode cL_setPlaces 14 = .ok (.ireturn, 1) := by decide +kernel
theorem dL_setPlaces_15 : decode cL_setPlaces 15 = .ok (.astore_n 3, 1) := by decide +kernel
theorem dL_setPlaces_16 : decode cL_setPlaces 16 = .ok (.iconst 2, 1) := by decide +kernel
theorem dL_setPlaces_17 : decode cL_setPlaces 17 = .ok (.ireturn, 1) := by decide +kernel
theorem dL_setPlaces_18 : decode cL_setPlaces 18 = .ok (.iconst 0, 1) := by decide +kernel
theorem dL_setPlaces_19 : decode cL_setPlaces 19 = .ok (.ireturn, 1) := by decide +kernel
theorem dL_setGoal_0 : decode cL_setGoal 0 = .ok (.aload_n 2, 1) := by decide +kernel
theorem dL_setGoal_1 : decode cL_setGoal 1 = .ok (.iconst 0, 1) := by decide +kernel
theorem dL_setGoal_2 : decode cL_setGoal 2 = .ok (.aload_n 0, 1) := by decide +kernel
theorem dL_setGoal_3 : decode cL_setGoal 3 = .ok (.iload_n 1, 1) := by decide +kernel
theorem dL_setGoal_4 : decode cL_setGoal 4 = .ok (.invokevirtual 35, 3) := by decide +kernel
theorem dL_setGoal_7 : decode cL_setGoal 7 = .ok (.i2l, 1) := by decide +kernel
theorem dL_setGoal_8 : decode cL_setGoal 8 = .ok (.lastore, 1) := by decide +kernel
theorem dL_setGoal_9 : decode cL_setGoal 9 = .ok (.goto 6, 3) := by decide +kernel
theorem dL_setGoal_12 : decode cL_setGoal 12 = .ok (.astore_n 3, 1) := by decide +kernel
theorem dL_setGoal_13 : decode cL_setGoal 13 = .ok (.iconst 1, 1) := by decide +kernel
theorem dL_setGoal_14 : decode cL_setGoal 14 = .ok (.ireturn, 1) := by decide +kernel
theorem dL_setGoal_15 : decode cL_setGoal 15 = .ok (.iconst 0, 1) := by decide +kernel
theorem dL_setGoal_16 : decode cL_setGoal 16 = .ok (.ireturn, 1) := by decide +kernel
theorem dL_jar_0 : decode cL_jar 0 = .ok (.aload_n 3, 1) := by decide +kernel
theorem dL_jar_1 : decode cL_jar 1 = .ok (.iconst 0, 1) := by decide +kernel
theorem dL_jar_2 : decode cL_jar 2 = .ok (.aload_n 0, 1) := by decide +kernel
theorem dL_jar_3 : decode cL_jar 3 = .ok (.iload_n 1, 1) := by decide +kernel
theorem dL_jar_4 : decode cL_jar 4 = .ok (.iload_n 2, 1) := by decide +kernel
theorem dL_jar_5 : decode cL_jar 5 = .ok (.invokevirtual 38, 3) := by decide +kernel
theorem dL_jar_8 : decode cL_jar 8 = .ok (.i2l, 1) := by decide +kernel
theorem dL_jar_9 : decode cL_jar 9 = .ok (.lastore, 1) := by decide +kernel
theorem dL_jar_10 : decode cL_jar 10 = .ok (.goto 7, 3) := by decide +kernel
theorem dL_jar_13 : decode cL_jar 13 = .ok (.astore 4, 2) := by decide +kernel
theorem dL_jar_15 : decode cL_jar 15 = .ok (.iconst 1, 1) := by decide +kernel
theorem dL_jar_16 : decode cL_jar 16 = .ok (.ireturn, 1) := by decide +kernel
theorem dL_jar_17 : decode cL_jar 17 = .ok (.iconst 0, 1) := by decide +kernel
theorem dL_jar_18 : decode cL_jar 18 = .ok (.ireturn, 1) := by decide +kernel
theorem dL_shelf_0 : decode cL_shelf 0 = .ok (.aload_n 3, 1) := by decide +kernel
theorem dL_shelf_1 : decode cL_shelf 1 = .ok (.iconst 0, 1) := by decide +kernel
theorem dL_shelf_2 : decode cL_shelf 2 = .ok (.aload_n 0, 1) := by decide +kernel
theorem dL_shelf_3 : decode cL_shelf 3 = .ok (.iload_n 1, 1) := by decide +kernel
theorem dL_shelf_4 : decode cL_shelf 4 = .ok (.iload_n 2, 1) := by decide +kernel
theorem dL_shelf_5 : decode cL_shelf 5 = .ok (.invokevirtual 42, 3) := by decide +kernel
theorem dL_shelf_8 : decode cL_shelf 8 = .ok (.i2l, 1) := by decide +kernel
theorem dL_shelf_9 : decode cL_shelf 9 = .ok (.lastore, 1) := by decide +kernel
theorem dL_shelf_10 : decode cL_shelf 10 = .ok (.goto 7, 3) := by decide +kernel
theorem dL_shelf_13 : decode cL_shelf 13 = .ok (.astore 4, 2) := by decide +kernel
theorem dL_shelf_15 : decode cL_shelf 15 = .ok (.iconst 1, 1) := by decide +kernel
theorem dL_shelf_16 : decode cL_shelf 16 = .ok (.ireturn, 1) := by decide +kernel
theorem dL_shelf_17 : decode cL_shelf 17 = .ok (.iconst 0, 1) := by decide +kernel
theorem dL_shelf_18 : decode cL_shelf 18 = .ok (.ireturn, 1) := by decide +kernel
theorem dL_ghost_0 : decode cL_ghost 0 = .ok (.aload_n 3, 1) := by decide +kernel
theorem dL_ghost_1 : decode cL_ghost 1 = .ok (.iconst 0, 1) := by decide +kernel
theorem dL_ghost_2 : decode cL_ghost 2 = .ok (.aload_n 0, 1) := by decide +kernel
theorem dL_ghost_3 : decode cL_ghost 3 = .ok (.iload_n 1, 1) := by decide +kernel
theorem dL_ghost_4 : decode cL_ghost 4 = .ok (.iload_n 2, 1) := by decide +kernel
theorem dL_ghost_5 : decode cL_ghost 5 = .ok (.invokevirtual 45, 3) := by decide +kernel
theorem dL_ghost_8 : decode cL_ghost 8 = .ok (.i2l, 1) := by decide +kernel
theorem dL_ghost_9 : decode cL_ghost 9 = .ok (.lastore, 1) := by decide +kernel
theorem dL_ghost_10 : decode cL_ghost 10 = .ok (.goto 7, 3) := by decide +kernel
theorem dL_ghost_13 : decode cL_ghost 13 = .ok (.astore 4, 2) := by decide +kernel
theorem dL_ghost_15 : decode cL_ghost 15 = .ok (.iconst 1, 1) := by decide +kernel
theorem dL_ghost_16 : decode cL_ghost 16 = .ok (.ireturn, 1) := by decide +kernel
theorem dL_ghost_17 : decode cL_ghost 17 = .ok (.iconst 0, 1) := by decide +kernel
theorem dL_ghost_18 : decode cL_ghost 18 = .ok (.ireturn, 1) := by decide +kernel
theorem dL_count_0 : decode cL_count 0 = .ok (.aload_n 2, 1) := by decide +kernel
theorem dL_count_1 : decode cL_count 1 = .ok (.iconst 0, 1) := by decide +kernel
theorem dL_count_2 : decode cL_count 2 = .ok (.aload_n 0, 1) := by decide +kernel
theorem dL_count_3 : decode cL_count 3 = .ok (.iload_n 1, 1) := by decide +kernel
theorem dL_count_4 : decode cL_count 4 = .ok (.invokevirtual 48, 3) := by decide +kernel
theorem dL_count_7 : decode cL_count 7 = .ok (.i2l, 1) := by decide +kernel
theorem dL_count_8 : decode cL_count 8 = .ok (.lastore, 1) := by decide +kernel
theorem dL_count_9 : decode cL_count 9 = .ok (.goto 6, 3) := by decide +kernel
theorem dL_count_12 : decode cL_count 12 = .ok (.astore_n 3, 1) := by decide +kernel
theorem dL_count_13 : decode cL_count 13 = .ok (.iconst 1, 1) := by decide +kernel
theorem dL_count_14 : decode cL_count 14 = .ok (.ireturn, 1) := by decide +kernel
theorem dL_count_15 : decode cL_count 15 = .ok (.iconst 0, 1) := by decide +kernel
theorem dL_count_16 : decode cL_count 16 = .ok (.ireturn, 1) := by decide +kernel
theorem dL_would_0 : decode cL_would 0 = .ok (.aload_n 2, 1) := by decide +kernel
theorem dL_would_1 : decode cL_would 1 = .ok (.iconst 0, 1) := by decide +kernel
theorem dL_would_2 : decode cL_would 2 = .ok (.aload_n 0, 1) := by decide +kernel
theorem dL_would_3 : decode cL_would 3 = .ok (.iload_n 1, 1) := by decide +kernel
theorem dL_would_4 : decode cL_would 4 = .ok (.invokevirtual 51, 3) := by decide +kernel
theorem dL_would_7 : decode cL_would 7 = .ok (.i2l, 1) := by decide +kernel
theorem dL_would_8 : decode cL_would 8 = .ok (.lastore, 1) := by decide +kernel
theorem dL_would_9 : decode cL_would 9 = .ok (.goto 6, 3) := by decide +kernel
theorem dL_would_12 : decode cL_would 12 = .ok (.astore_n 3, 1) := by decide +kernel
theorem dL_would_13 : decode cL_would 13 = .ok (.iconst 1, 1) := by decide +kernel
theorem dL_would_14 : decode cL_would 14 = .ok (.ireturn, 1) := by decide +kernel
theorem dL_would_15 : decode cL_would 15 = .ok (.iconst 0, 1) := by decide +kernel
theorem dL_would_16 : decode cL_would 16 = .ok (.ireturn, 1) := by decide +kernel
theorem dL_trial_0 : decode cL_trial 0 = .ok (.aload 4, 2) := by decide +kernel
theorem dL_trial_2 : decode cL_trial 2 = .ok (.iconst 0, 1) := by decide +kernel
theorem dL_trial_3 : decode cL_trial 3 = .ok (.aload_n 0, 1) := by decide +kernel
theorem dL_trial_4 : decode cL_trial 4 = .ok (.iload_n 1, 1) := by decide +kernel
theorem dL_trial_5 : decode cL_trial 5 = .ok (.iload_n 2, 1) := by decide +kernel
theorem dL_trial_6 : decode cL_trial 6 = .ok (.iload_n 3, 1) := by decide +kernel
theorem dL_trial_7 : decode cL_trial 7 = .ok (.invokevirtual 54, 3) := by decide +kernel
theorem dL_trial_10 : decode cL_trial 10 = .ok (.i2l, 1) := by decide +kernel
theorem dL_trial_11 : decode cL_trial 11 = .ok (.lastore, 1) := by decide +kernel
theorem dL_trial_12 : decode cL_trial 12 = .ok (.goto 11, 3) := by decide +kernel
theorem dL_trial_15 : decode cL_trial 15 = .ok (.astore 5, 2) := by decide +kernel
theorem dL_trial_17 : decode cL_trial 17 = .ok (.iconst 1, 1) := by decide +kernel
theorem dL_trial_18 : decode cL_trial 18 = .ok (.ireturn, 1) := by decide +kernel
theorem dL_trial_19 : decode cL_trial 19 = .ok (.astore 5, 2) := by decide +kernel
theorem dL_trial_21 : decode cL_trial 21 = .ok (.iconst 2, 1) := by decide +kernel
theorem dL_trial_22 : decode cL_trial 22 = .ok (.ireturn, 1) := by decide +kernel
theorem dL_trial_23 : decode cL_trial 23 = .ok (.iconst 0, 1) := by decide +kernel
theorem dL_trial_24 : decode cL_trial 24 = .ok (.ireturn, 1) := by decide +kernel
theorem dL_advise_0 : decode cL_advise 0 = .ok (.aload 4, 2) := by decide +kernel
theorem dL_advise_2 : decode cL_advise 2 = .ok (.iconst 0, 1) := by decide +kernel
theorem dL_advise_3 : decode cL_advise 3 = .ok (.aload_n 0, 1) := by decide +kernel
theorem dL_advise_4 : decode cL_advise 4 = .ok (.iload_n 1, 1) := by decide +kernel
theorem dL_advise_5 : decode cL_advise 5 = .ok (.iload_n 2, 1) := by decide +kernel
theorem dL_advise_6 : decode cL_advise 6 = .ok (.iload_n 3, 1) := by decide +kernel
theorem dL_advise_7 : decode cL_advise 7 = .ok (.invokevirtual 57, 3) := by decide +kernel
theorem dL_advise_10 : decode cL_advise 10 = .ok (.i2l, 1) := by decide +kernel
theorem dL_advise_11 : decode cL_advise 11 = .ok (.lastore, 1) := by decide +kernel
theorem dL_advise_12 : decode cL_advise 12 = .ok (.goto 11, 3) := by decide +kernel
theorem dL_advise_15 : decode cL_advise 15 = .ok (.astore 5, 2) := by decide +kernel
theorem dL_advise_17 : decode cL_advise 17 = .ok (.iconst 1, 1) := by decide +kernel
theorem dL_advise_18 : decode cL_advise 18 = .ok (.ireturn, 1) := by decide +kernel
theorem dL_advise_19 : decode cL_advise 19 = .ok (.astore 5, 2) := by decide +kernel
theorem dL_advise_21 : decode cL_advise 21 = .ok (.iconst 2, 1) := by decide +kernel
theorem dL_advise_22 : decode cL_advise 22 = .ok (.ireturn, 1) := by decide +kernel
theorem dL_advise_23 : decode cL_advise 23 = .ok (.iconst 0, 1) := by decide +kernel
theorem dL_advise_24 : decode cL_advise 24 = .ok (.ireturn, 1) := by decide +kernel
theorem dL_law_0 : decode cL_law 0 = .ok (.new 8, 3) := by decide +kernel
theorem dL_law_3 : decode cL_law 3 = .ok (.dup, 1) := by decide +kernel
theorem dL_law_4 : decode cL_law 4 = .ok (.invokespecial 60, 3) := by decide +kernel
theorem dL_law_7 : decode cL_law 7 = .ok (.astore_n 1, 1) := by decide +kernel
theorem dL_law_8 : decode cL_law 8 = .ok (.new 61, 3) := by decide +kernel
theorem dL_law_11 : decode cL_law 11 = .ok (.dup, 1) := by decide +kernel
theorem dL_law_12 : decode cL_law 12 = .ok (.invokespecial 63, 3) := by decide +kernel
theorem dL_law_15 : decode cL_law 15 = .ok (.astore_n 2, 1) := by decide +kernel
theorem dL_law_16 : decode cL_law 16 = .ok (.iconst 1, 1) := by decide +kernel
theorem dL_law_17 : decode cL_law 17 = .ok (.newarray .long, 2) := by decide +kernel
theorem dL_law_19 : decode cL_law 19 = .ok (.astore_n 3, 1) := by decide +kernel
theorem dL_law_20 : decode cL_law 20 = .ok (.iconst 0, 1) := by decide +kernel
theorem dL_law_21 : decode cL_law 21 = .ok (.istore 4, 2) := by decide +kernel
theorem dL_law_23 : decode cL_law 23 = .ok (.iload 4, 2) := by decide +kernel
theorem dL_law_25 : decode cL_law 25 = .ok (.aload_n 0, 1) := by decide +kernel
theorem dL_law_26 : decode cL_law 26 = .ok (.arraylength, 1) := by decide +kernel
theorem dL_law_27 : decode cL_law 27 = .ok (.iconst 4, 1) := by decide +kernel
theorem dL_law_28 : decode cL_law 28 = .ok (.isub, 1) := by decide +kernel
theorem dL_law_29 : decode cL_law 29 = .ok (.if_icmp .gt 1057, 3) := by decide +kernel
theorem dL_law_32 : decode cL_law 32 = .ok (.aload_n 0, 1) := by decide +kernel
theorem dL_law_33 : decode cL_law 33 = .ok (.iload 4, 2) := by decide +kernel
theorem dL_law_35 : decode cL_law 35 = .ok (.iaload, 1) := by decide +kernel
theorem dL_law_36 : decode cL_law 36 = .ok (.bipush 31, 2) := by decide +kernel
theorem dL_law_38 : decode cL_law 38 = .ok (.iand, 1) := by decide +kernel
theorem dL_law_39 : decode cL_law 39 = .ok (.tableswitch 1041 0 16 #[81, 137, 217, 273, 329, 385, 441, 497, 565, 633, 701, 757, 770, 826, 906, 986, 1027], 81) := by decide +kernel
theorem dL_law_120 : decode cL_law 120 = .ok (.aload_n 1, 1) := by decide +kernel
theorem dL_law_121 : decode cL_law 121 = .ok (.aload_n 0, 1) := by decide +kernel
theorem dL_law_122 : decode cL_law 122 = .ok (.iload 4, 2) := by decide +kernel
theorem dL_law_124 : decode cL_law 124 = .ok (.iconst 1, 1) := by decide +kernel
theorem dL_law_125 : decode cL_law 125 = .ok (.iadd, 1) := by decide +kernel
theorem dL_law_126 : decode cL_law 126 = .ok (.iaload, 1) := by decide +kernel
theorem dL_law_127 : decode cL_law 127 = .ok (.aload_n 3, 1) := by decide +kernel
theorem dL_law_128 : decode cL_law 128 = .ok (.invokestatic 64, 3) := by decide +kernel
theorem dL_law_131 : decode cL_law 131 = .ok (.istore 5, 2) := by decide +kernel
theorem dL_law_133 : decode cL_law 133 = .ok (.aload_n 2, 1) := by decide +kernel
theorem dL_law_134 : decode cL_law 134 = .ok (.aload_n 0, 1) := by decide +kernel
theorem dL_law_135 : decode cL_law 135 = .ok (.iload 4, 2) := by decide +kernel
theorem dL_law_137 : decode cL_law 137 = .ok (.iconst 1, 1) := by decide +kernel
theorem dL_law_138 : decode cL_law 138 = .ok (.iadd, 1) := by decide +kernel
theorem dL_law_139 : decode cL_law 139 = .ok (.iaload, 1) := by decide +kernel
theorem dL_law_140 : decode cL_law 140 = .ok (.invokevirtual 69, 3) := by decide +kernel
theorem dL_law_143 : decode cL_law 143 = .ok (.istore 6, 2) := by decide +kernel
theorem dL_law_145 : decode cL_law 145 = .ok (.aload_n 2, 1) := by decide +kernel
theorem dL_law_146 : decode cL_law 146 = .ok (.invokevirtual 70, 3) := by decide +kernel
theorem dL_law_149 : decode cL_law 149 = .ok (.iload 5, 2) := by decide +kernel
theorem dL_law_151 : decode cL_law 151 = .ok (.if_icmp .eq 5, 3) := by decide +kernel
theorem dL_law_154 : decode cL_law 154 = .ok (.iconst 0, 1) := by decide +kernel
theorem dL_law_155 : decode cL_law 155 = .ok (.ireturn, 1) := by decide +kernel
theorem dL_law_156 : decode cL_law 156 = .ok (.iload 5, 2) := by decide +kernel
theorem dL_law_158 : decode cL_law 158 = .ok (.ifCond .ne 15, 3) := by decide +kernel
theorem dL_law_161 : decode cL_law 161 = .ok (.aload_n 3, 1) := by decide +kernel
theorem dL_law_162 : decode cL_law 162 = .ok (.iconst 0, 1) := by decide +kernel
theorem dL_law_163 : decode cL_law 163 = .ok (.laload, 1) := by decide +kernel
theorem dL_law_164 : decode cL_law 164 = .ok (.iload 6, 2) := by decide +kernel
theorem dL_law_166 : decode cL_law 166 = .ok (.i2l, 1) := by decide +kernel
theorem dL_law_167 : decode cL_law 167 = .ok (.lcmp, 1) := by decide +kernel
theorem dL_law_168 : decode cL_law 168 = .ok (.ifCond .eq 5, 3) := by decide +kernel
theorem dL_law_171 : decode cL_law 171 = .ok (.iconst 0, 1) := by decide +kernel
theorem dL_law_172 : decode cL_law 172 = .ok (.ireturn, 1) := by decide +kernel
theorem dL_law_173 : decode cL_law 173 = .ok (.goto 907, 3) := by decide +kernel
theorem dL_law_176 : decode cL_law 176 = .ok (.aload_n 1, 1) := by decide +kernel
theorem dL_law_177 : decode cL_law 177 = .ok (.aload_n 0, 1) := by decide +kernel
theorem dL_law_178 : decode cL_law 178 = .ok (.iload 4, 2) := by decide +kernel
theorem dL_law_180 : decode cL_law 180 = .ok (.iconst 1, 1) := by decide +kernel
theorem dL_law_181 : decode cL_law 181 = .ok (.iadd, 1) := by decide +kernel
theorem dL_law_182 : decode cL_law 182 = .ok (.iaload, 1) := by decide +kernel
theorem dL_law_183 : decode cL_law 183 = .ok (.aload_n 0, 1) := by decide +kernel
theorem dL_law_184 : decode cL_law 184 = .ok (.iload 4, 2) := by decide +kernel
theorem dL_law_186 : decode cL_law 186 = .ok (.iconst 2, 1) := by decide +kernel
theorem dL_law_187 : decode cL_law 187 = .ok (.iadd, 1) := by decide +kernel
theorem dL_law_188 : decode cL_law 188 = .ok (.iaload, 1) := by decide +kernel
theorem dL_law_189 : decode cL_law 189 = .ok (.aload_n 0, 1) := by decide +kernel
theorem dL_law_190 : decode cL_law 190 = .ok (.iload 4, 2) := by decide +kernel
theorem dL_law_192 : decode cL_law 192 = .ok (.iconst 3, 1) := by decide +kernel
theorem dL_law_193 : decode cL_law 193 = .ok (.iadd, 1) := by decide +kernel
theorem dL_law_194 : decode cL_law 194 = .ok (.iaload, 1) := by decide +kernel
theorem dL_law_195 : decode cL_law 195 = .ok (.aload_n 3, 1) := by decide +kernel
theorem dL_law_196 : decode cL_law 196 = .ok (.invokestatic 74, 3) := by decide +kernel
theorem dL_law_199 : decode cL_law 199 = .ok (.istore 5, 2) := by decide +kernel
theorem dL_law_201 : decode cL_law 201 = .ok (.aload_n 2, 1) := by decide +kernel
theorem dL_law_202 : decode cL_law 202 = .ok (.aload_n 0, 1) := by decide +kernel
theorem dL_law_203 : decode cL_law 203 = .ok (.iload 4, 2) := by decide +kernel
theorem dL_law_205 : decode cL_law 205 = .ok (.iconst 1, 1) := by decide +kernel
theorem dL_law_206 : decode cL_law 206 = .ok (.iadd, 1) := by decide +kernel
theorem dL_law_207 : decode cL_law 207 = .ok (.iaload, 1) := by decide +kernel
theorem dL_law_208 : decode cL_law 208 = .ok (.aload_n 0, 1) := by decide +kernel
theorem dL_law_209 : decode cL_law 209 = .ok (.iload 4, 2) := by decide +kernel
theorem dL_law_211 : decode cL_law 211 = .ok (.iconst 2, 1) := by decide +kernel
theorem dL_law_212 : decode cL_law 212 = .ok (.iadd, 1) := by decide +kernel
theorem dL_law_213 : decode cL_law 213 = .ok (.iaload, 1) := by decide +kernel
theorem dL_law_214 : decode cL_law 214 = .ok (.aload_n 0, 1) := by decide +kernel
theorem dL_law_215 : decode cL_law 215 = .ok (.iload 4, 2) := by decide +kernel
theorem dL_law_217 : decode cL_law 217 = .ok (.iconst 3, 1) := by decide +kernel
theorem dL_law_218 : decode cL_law 218 = .ok (.iadd, 1) := by decide +kernel
theorem dL_law_219 : decode cL_law 219 = .ok (.iaload, 1) := by decide +kernel
theorem dL_law_220 : decode cL_law 220 = .ok (.invokevirtual 77, 3) := by decide +kernel
theorem dL_law_223 : decode cL_law 223 = .ok (.istore 6, 2) := by decide +kernel
theorem dL_law_225 : decode cL_law 225 = .ok (.aload_n 2, 1) := by decide +kernel
theorem dL_law_226 : decode cL_law 226 = .ok (.invokevirtual 70, 3) := by decide +kernel
theorem dL_law_229 : decode cL_law 229 = .ok (.iload 5, 2) := by decide +kernel
theorem dL_law_231 : decode cL_law 231 = .ok (.if_icmp .eq 5, 3) := by decide +kernel
theorem dL_law_234 : decode cL_law 234 = .ok (.iconst 0, 1) := by decide +kernel
theorem dL_law_235 : decode cL_law 235 = .ok (.ireturn, 1) := by decide +kernel
theorem dL_law_236 : decode cL_law 236 = .ok (.iload 5, 2) := by decide +kernel
theorem dL_law_238 : decode cL_law 238 = .ok (.ifCond .ne 15, 3) := by decide +kernel
theorem dL_law_241 : decode cL_law 241 = .ok (.aload_n 3, 1) := by decide +kernel
theorem dL_law_242 : decode cL_law 242 = .ok (.iconst 0, 1) := by decide +kernel
theorem dL_law_243 : decode cL_law 243 = .ok (.laload, 1) := by decide +kernel
theorem dL_law_244 : decode cL_law 244 = .ok (.iload 6, 2) := by decide +kernel
theorem dL_law_246 : decode cL_law 246 = .ok (.i2l, 1) := by decide +kernel
theorem dL_law_247 : decode cL_law 247 = .ok (.lcmp, 1) := by decide +kernel
theorem dL_law_248 : decode cL_law 248 = .ok (.ifCond .eq 5, 3) := by decide +kernel
theorem dL_law_251 : decode cL_law 251 = .ok (.iconst 0, 1) := by decide +kernel
theorem dL_law_252 : decode cL_law 252 = .ok (.ireturn, 1) := by decide +kernel
theorem dL_law_253 : decode cL_law 253 = .ok (.goto 827, 3) := by decide +kernel
theorem dL_law_256 : decode cL_law 256 = .ok (.aload_n 1, 1) := by decide +kernel
theorem dL_law_257 : decode cL_law 257 = .ok (.aload_n 0, 1) := by decide +kernel
theorem dL_law_258 : decode cL_law 258 = .ok (.iload 4, 2) := by decide +kernel
theorem dL_law_260 : decode cL_law 260 = .ok (.iconst 1, 1) := by decide +kernel
theorem dL_law_261 : decode cL_law 261 = .ok (.iadd, 1) := by decide +kernel
theorem dL_law_262 : decode cL_law 262 = .ok (.iaload, 1) := by decide +kernel
theorem dL_law_263 : decode cL_law 263 = .ok (.aload_n 3, 1) := by decide +kernel
theorem dL_law_264 : decode cL_law 264 = .ok (.invokestatic 78, 3) := by decide +kernel
theorem dL_law_267 : decode cL_law 267 = .ok (.istore 5, 2) := by decide +kernel
theorem dL_law_269 : decode cL_law 269 = .ok (.aload_n 2, 1) := by decide +kernel
theorem dL_law_270 : decode cL_law 270 = .ok (.aload_n 0, 1) := by decide +kernel
theorem dL_law_271 : decode cL_law 271 = .ok (.iload 4, 2) := by decide +kernel
theorem dL_law_273 : decode cL_law 273 = .ok (.iconst 1, 1) := by decide +kernel
theorem dL_law_274 : decode cL_law 274 = .ok (.iadd, 1) := by decide +kernel
theorem dL_law_275 : decode cL_law 275 = .ok (.iaload, 1) := by decide +kernel
theorem dL_law_276 : decode cL_law 276 = .ok (.invokevirtual 80, 3) := by decide +kernel
theorem dL_law_279 : decode cL_law 279 = .ok (.istore 6, 2) := by decide +kernel
theorem dL_law_281 : decode cL_law 281 = .ok (.aload_n 2, 1) := by decide +kernel
theorem dL_law_282 : decode cL_law 282 = .ok (.invokevirtual 70, 3) := by decide +kernel
theorem dL_law_285 : decode cL_law 285 = .ok (.iload 5, 2) := by decide +kernel
theorem dL_law_287 : decode cL_law 287 = .ok (.if_icmp .eq 5, 3) := by decide +kernel
theorem dL_law_290 : decode cL_law 290 = .ok (.iconst 0, 1) := by decide +kernel
theorem dL_law_291 : decode cL_law 291 = .ok (.ireturn, 1) := by decide +kernel
theorem dL_law_292 : decode cL_law 292 = .ok (.iload 5, 2) := by decide +kernel
theorem dL_law_294 : decode cL_law 294 = .ok (.ifCond .ne 15, 3) := by decide +kernel
theorem dL_law_297 : decode cL_law 297 = .ok (.aload_n 3, 1) := by decide +kernel
theorem dL_law_298 : decode cL_law 298 = .ok (.iconst 0, 1) := by decide +kernel
theorem dL_law_299 : decode cL_law 299 = .ok (.laload, 1) := by decide +kernel
theorem dL_law_300 : decode cL_law 300 = .ok (.iload 6, 2) := by decide +kernel
theorem dL_law_302 : decode cL_law 302 = .ok (.i2l, 1) := by decide +kernel
theorem dL_law_303 : decode cL_law 303 = .ok (.lcmp, 1) := by decide +kernel
theorem dL_law_304 : decode cL_law 304 = .ok (.ifCond .eq 5, 3) := by decide +kernel
theorem dL_law_307 : decode cL_law 307 = .ok (.iconst 0, 1) := by decide +kernel
theorem dL_law_308 : decode cL_law 308 = .ok (.ireturn, 1) := by decide +kernel
theorem dL_law_309 : decode cL_law 309 = .ok (.goto 771, 3) := by decide +kernel
theorem dL_law_312 : decode cL_law 312 = .ok (.aload_n 1, 1) := by decide +kernel
theorem dL_law_313 : decode cL_law 313 = .ok (.aload_n 0, 1) := by decide +kernel
theorem dL_law_314 : decode cL_law 314 = .ok (.iload 4, 2) := by decide +kernel
theorem dL_law_316 : decode cL_law 316 = .ok (.iconst 1, 1) := by decide +kernel
theorem dL_law_317 : decode cL_law 317 = .ok (.iadd, 1) := by decide +kernel
theorem dL_law_318 : decode cL_law 318 = .ok (.iaload, 1) := by decide +kernel
theorem dL_law_319 : decode cL_law 319 = .ok (.aload_n 3, 1) := by decide +kernel
theorem dL_law_320 : decode cL_law 320 = .ok (.invokestatic 81, 3) := by decide +kernel
theorem dL_law_323 : decode cL_law 323 = .ok (.istore 5, 2) := by decide +kernel
theorem dL_law_325 : decode cL_law 325 = .ok (.aload_n 2, 1) := by decide +kernel
theorem dL_law_326 : decode cL_law 326 = .ok (.aload_n 0, 1) := by decide +kernel
theorem dL_law_327 : decode cL_law 327 = .ok (.iload 4, 2) := by decide +kernel
theorem dL_law_329 : decode cL_law 329 = .ok (.iconst 1, 1) := by decide +kernel
theorem dL_law_330 : decode cL_law 330 = .ok (.iadd, 1) := by decide +kernel
theorem dL_law_331 : decode cL_law 331 = .ok (.iaload, 1) := by decide +kernel
theorem dL_law_332 : decode cL_law 332 = .ok (.invokevirtual 83, 3) := by decide +kernel
theorem dL_law_335 : decode cL_law 335 = .ok (.istore 6, 2) := by decide +kernel
theorem dL_law_337 : decode cL_law 337 = .ok (.aload_n 2, 1) := by decide +kernel
theorem dL_law_338 : decode cL_law 338 = .ok (.invokevirtual 70, 3) := by decide +kernel
theorem dL_law_341 : decode cL_law 341 = .ok (.iload 5, 2) := by decide +kernel
theorem dL_law_343 : decode cL_law 343 = .ok (.if_icmp .eq 5, 3) := by decide +kernel
theorem dL_law_346 : decode cL_law 346 = .ok (.iconst 0, 1) := by decide +kernel
theorem dL_law_347 : decode cL_law 347 = .ok (.ireturn, 1) := by decide +kernel
theorem dL_law_348 : decode cL_law 348 = .ok (.iload 5, 2) := by decide +kernel
theorem dL_law_350 : decode cL_law 350 = .ok (.ifCond .ne 15, 3) := by decide +kernel
theorem dL_law_353 : decode cL_law 353 = .ok (.aload_n 3, 1) := by decide +kernel
theorem dL_law_354 : decode cL_law 354 = .ok (.iconst 0, 1) := by decide +kernel
theorem dL_law_355 : decode cL_law 355 = .ok (.laload, 1) := by decide +kernel
theorem dL_law_356 : decode cL_law 356 = .ok (.iload 6, 2) := by decide +kernel
theorem dL_law_358 : decode cL_law 358 = .ok (.i2l, 1) := by decide +kernel
theorem dL_law_359 : decode cL_law 359 = .ok (.lcmp, 1) := by decide +kernel
theorem dL_law_360 : decode cL_law 360 = .ok (.ifCond .eq 5, 3) := by decide +kernel
theorem dL_law_363 : decode cL_law 363 = .ok (.iconst 0, 1) := by decide +kernel
theorem dL_law_364 : decode cL_law 364 = .ok (.ireturn, 1) := by decide +kernel
theorem dL_law_365 : decode cL_law 365 = .ok (.goto 715, 3) := by decide +kernel
theorem dL_law_368 : decode cL_law 368 = .ok (.aload_n 1, 1) := by decide +kernel
theorem dL_law_369 : decode cL_law 369 = .ok (.aload_n 0, 1) := by decide +kernel
theorem dL_law_370 : decode cL_law 370 = .ok (.iload 4, 2) := by decide +kernel
theorem dL_law_372 : decode cL_law 372 = .ok (.iconst 1, 1) := by decide +kernel
theorem dL_law_373 : decode cL_law 373 = .ok (.iadd, 1) := by decide +kernel
theorem dL_law_374 : decode cL_law 374 = .ok (.iaload, 1) := by decide +kernel
theorem dL_law_375 : decode cL_law 375 = .ok (.aload_n 3, 1) := by decide +kernel
theorem dL_law_376 : decode cL_law 376 = .ok (.invokestatic 84, 3) := by decide +kernel
theorem dL_law_379 : decode cL_law 379 = .ok (.istore 5, 2) := by decide +kernel
theorem dL_law_381 : decode cL_law 381 = .ok (.aload_n 2, 1) := by decide +kernel
theorem dL_law_382 : decode cL_law 382 = .ok (.aload_n 0, 1) := by decide +kernel
theorem dL_law_383 : decode cL_law 383 = .ok (.iload 4, 2) := by decide +kernel
theorem dL_law_385 : decode cL_law 385 = .ok (.iconst 1, 1) := by decide +kernel
theorem dL_law_386 : decode cL_law 386 = .ok (.iadd, 1) := by decide +kernel
theorem dL_law_387 : decode cL_law 387 = .ok (.iaload, 1) := by decide +kernel
theorem dL_law_388 : decode cL_law 388 = .ok (.invokevirtual 86, 3) := by decide +kernel
theorem dL_law_391 : decode cL_law 391 = .ok (.istore 6, 2) := by decide +kernel
theorem dL_law_393 : decode cL_law 393 = .ok (.aload_n 2, 1) := by decide +kernel
theorem dL_law_394 : decode cL_law 394 = .ok (.invokevirtual 70, 3) := by decide +kernel
theorem dL_law_397 : decode cL_law 397 = .ok (.iload 5, 2) := by decide +kernel
theorem dL_law_399 : decode cL_law 399 = .ok (.if_icmp .eq 5, 3) := by decide +kernel
theorem dL_law_402 : decode cL_law 402 = .ok (.iconst 0, 1) := by decide +kernel
theorem dL_law_403 : decode cL_law 403 = .ok (.ireturn, 1) := by decide +kernel
theorem dL_law_404 : decode cL_law 404 = .ok (.iload 5, 2) := by decide +kernel
theorem dL_law_406 : decode cL_law 406 = .ok (.ifCond .ne 15, 3) := by decide +kernel
theorem dL_law_409 : decode cL_law 409 = .ok (.aload_n 3, 1) := by decide +kernel
theorem dL_law_410 : decode cL_law 410 = .ok (.iconst 0, 1) := by decide +kernel
theorem dL_law_411 : decode cL_law 411 = .ok (.laload, 1) := by decide +kernel
theorem dL_law_412 : decode cL_law 412 = .ok (.iload 6, 2) := by decide +kernel
theorem dL_law_414 : decode cL_law 414 = .ok (.i2l, 1) := by decide +kernel
theorem dL_law_415 : decode cL_law 415 = .ok (.lcmp, 1) := by decide +kernel
theorem dL_law_416 : decode cL_law 416 = .ok (.ifCond .eq 5, 3) := by decide +kernel
theorem dL_law_419 : decode cL_law 419 = .ok (.iconst 0, 1) := by decide +kernel
theorem dL_law_420 : decode cL_law 420 = .ok (.ireturn, 1) := by decide +kernel
theorem dL_law_421 : decode cL_law 421 = .ok (.goto 659, 3) := by decide +kernel
theorem dL_law_424 : decode cL_law 424 = .ok (.aload_n 1, 1) := by decide +kernel
theorem dL_law_425 : decode cL_law 425 = .ok (.aload_n 0, 1) := by decide +kernel
theorem dL_law_426 : decode cL_law 426 = .ok (.iload 4, 2) := by decide +kernel
theorem dL_law_428 : decode cL_law 428 = .ok (.iconst 1, 1) := by decide +kernel
theorem dL_law_429 : decode cL_law 429 = .ok (.iadd, 1) := by decide +kernel
theorem dL_law_430 : decode cL_law 430 = .ok (.iaload, 1) := by decide +kernel
theorem dL_law_431 : decode cL_law 431 = .ok (.aload_n 3, 1) := by decide +kernel
theorem dL_law_432 : decode cL_law 432 = .ok (.invokestatic 87, 3) := by decide +kernel
theorem dL_law_435 : decode cL_law 435 = .ok (.istore 5, 2) := by decide +kernel
theorem dL_law_437 : decode cL_law 437 = .ok (.aload_n 2, 1) := by decide +kernel
theorem dL_law_438 : decode cL_law 438 = .ok (.aload_n 0, 1) := by decide +kernel
theorem dL_law_439 : decode cL_law 439 = .ok (.iload 4, 2) := by decide +kernel
theorem dL_law_441 : decode cL_law 441 = .ok (.iconst 1, 1) := by decide +kernel
theorem dL_law_442 : decode cL_law 442 = .ok (.iadd, 1) := by decide +kernel
theorem dL_law_443 : decode cL_law 443 = .ok (.iaload, 1) := by decide +kernel
theorem dL_law_444 : decode cL_law 444 = .ok (.invokevirtual 89, 3) := by decide +kernel
theorem dL_law_447 : decode cL_law 447 = .ok (.istore 6, 2) := by decide +kernel
theorem dL_law_449 : decode cL_law 449 = .ok (.aload_n 2, 1) := by decide +kernel
theorem dL_law_450 : decode cL_law 450 = .ok (.invokevirtual 70, 3) := by decide +kernel
theorem dL_law_453 : decode cL_law 453 = .ok (.iload 5, 2) := by decide +kernel
theorem dL_law_455 : decode cL_law 455 = .ok (.if_icmp .eq 5, 3) := by decide +kernel
theorem dL_law_458 : decode cL_law 458 = .ok (.iconst 0, 1) := by decide +kernel
theorem dL_law_459 : decode cL_law 459 = .ok (.ireturn, 1) := by decide +kernel
theorem dL_law_460 : decode cL_law 460 = .ok (.iload 5, 2) := by decide +kernel
theorem dL_law_462 : decode cL_law 462 = .ok (.ifCond .ne 15, 3) := by decide +kernel
theorem dL_law_465 : decode cL_law 465 = .ok (.aload_n 3, 1) := by decide +kernel
theorem dL_law_466 : decode cL_law 466 = .ok (.iconst 0, 1) := by decide +kernel
theorem dL_law_467 : decode cL_law 467 = .ok (.laload, 1) := by decide +kernel
theorem dL_law_468 : decode cL_law 468 = .ok (.iload 6, 2) := by decide +kernel
theorem dL_law_470 : decode cL_law 470 = .ok (.i2l, 1) := by decide +kernel
theorem dL_law_471 : decode cL_law 471 = .ok (.lcmp, 1) := by decide +kernel
theorem dL_law_472 : decode cL_law 472 = .ok (.ifCond .eq 5, 3) := by decide +kernel
theorem dL_law_475 : decode cL_law 475 = .ok (.iconst 0, 1) := by decide +kernel
theorem dL_law_476 : decode cL_law 476 = .ok (.ireturn, 1) := by decide +kernel
theorem dL_law_477 : decode cL_law 477 = .ok (.goto 603, 3) := by decide +kernel
theorem dL_law_480 : decode cL_law 480 = .ok (.aload_n 1, 1) := by decide +kernel
theorem dL_law_481 : decode cL_law 481 = .ok (.aload_n 0, 1) := by decide +kernel
theorem dL_law_482 : decode cL_law 482 = .ok (.iload 4, 2) := by decide +kernel
theorem dL_law_484 : decode cL_law 484 = .ok (.iconst 1, 1) := by decide +kernel
theorem dL_law_485 : decode cL_law 485 = .ok (.iadd, 1) := by decide +kernel
theorem dL_law_486 : decode cL_law 486 = .ok (.iaload, 1) := by decide +kernel
theorem dL_law_487 : decode cL_law 487 = .ok (.aload_n 3, 1) := by decide +kernel
theorem dL_law_488 : decode cL_law 488 = .ok (.invokestatic 90, 3) := by decide +kernel
theorem dL_law_491 : decode cL_law 491 = .ok (.istore 5, 2) := by decide +kernel
theorem dL_law_493 : decode cL_law 493 = .ok (.aload_n 2, 1) := by decide +kernel
theorem dL_law_494 : decode cL_law 494 = .ok (.aload_n 0, 1) := by decide +kernel
theorem dL_law_495 : decode cL_law 495 = .ok (.iload 4, 2) := by decide +kernel
theorem dL_law_497 : decode cL_law 497 = .ok (.iconst 1, 1) := by decide +kernel
theorem dL_law_498 : decode cL_law 498 = .ok (.iadd, 1) := by decide +kernel
theorem dL_law_499 : decode cL_law 499 = .ok (.iaload, 1) := by decide +kernel
theorem dL_law_500 : decode cL_law 500 = .ok (.invokevirtual 92, 3) := by decide +kernel
theorem dL_law_503 : decode cL_law 503 = .ok (.istore 6, 2) := by decide +kernel
theorem dL_law_505 : decode cL_law 505 = .ok (.aload_n 2, 1) := by decide +kernel
theorem dL_law_506 : decode cL_law 506 = .ok (.invokevirtual 70, 3) := by decide +kernel
theorem dL_law_509 : decode cL_law 509 = .ok (.iload 5, 2) := by decide +kernel
theorem dL_law_511 : decode cL_law 511 = .ok (.if_icmp .eq 5, 3) := by decide +kernel
theorem dL_law_514 : decode cL_law 514 = .ok (.iconst 0, 1) := by decide +kernel
theorem dL_law_515 : decode cL_law 515 = .ok (.ireturn, 1) := by decide +kernel
theorem dL_law_516 : decode cL_law 516 = .ok (.iload 5, 2) := by decide +kernel
theorem dL_law_518 : decode cL_law 518 = .ok (.ifCond .ne 15, 3) := by decide +kernel
theorem dL_law_521 : decode cL_law 521 = .ok (.aload_n 3, 1) := by decide +kernel
theorem dL_law_522 : decode cL_law 522 = .ok (.iconst 0, 1) := by decide +kernel
theorem dL_law_523 : decode cL_law 523 = .ok (.laload, 1) := by decide +kernel
theorem dL_law_524 : decode cL_law 524 = .ok (.iload 6, 2) := by decide +kernel
theorem dL_law_526 : decode cL_law 526 = .ok (.i2l, 1) := by decide +kernel
theorem dL_law_527 : decode cL_law 527 = .ok (.lcmp, 1) := by decide +kernel
theorem dL_law_528 : decode cL_law 528 = .ok (.ifCond .eq 5, 3) := by decide +kernel
theorem dL_law_531 : decode cL_law 531 = .ok (.iconst 0, 1) := by decide +kernel
theorem dL_law_532 : decode cL_law 532 = .ok (.ireturn, 1) := by decide +kernel
theorem dL_law_533 : decode cL_law 533 = .ok (.goto 547, 3) := by decide +kernel
theorem dL_law_536 : decode cL_law 536 = .ok (.aload_n 1, 1) := by decide +kernel
theorem dL_law_537 : decode cL_law 537 = .ok (.aload_n 0, 1) := by decide +kernel
theorem dL_law_538 : decode cL_law 538 = .ok (.iload 4, 2) := by decide +kernel
theorem dL_law_540 : decode cL_law 540 = .ok (.iconst 1, 1) := by decide +kernel
theorem dL_law_541 : decode cL_law 541 = .ok (.iadd, 1) := by decide +kernel
theorem dL_law_542 : decode cL_law 542 = .ok (.iaload, 1) := by decide +kernel
theorem dL_law_543 : decode cL_law 543 = .ok (.aload_n 0, 1) := by decide +kernel
theorem dL_law_544 : decode cL_law 544 = .ok (.iload 4, 2) := by decide +kernel
theorem dL_law_546 : decode cL_law 546 = .ok (.iconst 2, 1) := by decide +kernel
theorem dL_law_547 : decode cL_law 547 = .ok (.iadd, 1) := by decide +kernel
theorem dL_law_548 : decode cL_law 548 = .ok (.iaload, 1) := by decide +kernel
theorem dL_law_549 : decode cL_law 549 = .ok (.aload_n 3, 1) := by decide +kernel
theorem dL_law_550 : decode cL_law 550 = .ok (.invokestatic 93, 3) := by decide +kernel
theorem dL_law_553 : decode cL_law 553 = .ok (.istore 5, 2) := by decide +kernel
theorem dL_law_555 : decode cL_law 555 = .ok (.aload_n 2, 1) := by decide +kernel
theorem dL_law_556 : decode cL_law 556 = .ok (.aload_n 0, 1) := by decide +kernel
theorem dL_law_557 : decode cL_law 557 = .ok (.iload 4, 2) := by decide +kernel
theorem dL_law_559 : decode cL_law 559 = .ok (.iconst 1, 1) := by decide +kernel
theorem dL_law_560 : decode cL_law 560 = .ok (.iadd, 1) := by decide +kernel
theorem dL_law_561 : decode cL_law 561 = .ok (.iaload, 1) := by decide +kernel
theorem dL_law_562 : decode cL_law 562 = .ok (.aload_n 0, 1) := by decide +kernel
theorem dL_law_563 : decode cL_law 563 = .ok (.iload 4, 2) := by decide +kernel
theorem dL_law_565 : decode cL_law 565 = .ok (.iconst 2, 1) := by decide +kernel
theorem dL_law_566 : decode cL_law 566 = .ok (.iadd, 1) := by decide +kernel
theorem dL_law_567 : decode cL_law 567 = .ok (.iaload, 1) := by decide +kernel
theorem dL_law_568 : decode cL_law 568 = .ok (.invokevirtual 96, 3) := by decide +kernel
theorem dL_law_571 : decode cL_law 571 = .ok (.istore 6, 2) := by decide +kernel
theorem dL_law_573 : decode cL_law 573 = .ok (.aload_n 2, 1) := by decide +kernel
theorem dL_law_574 : decode cL_law 574 = .ok (.invokevirtual 70, 3) := by decide +kernel
theorem dL_law_577 : decode cL_law 577 = .ok (.iload 5, 2) := by decide +kernel
theorem dL_law_579 : decode cL_law 579 = .ok (.if_icmp .eq 5, 3) := by decide +kernel
theorem dL_law_582 : decode cL_law 582 = .ok (.iconst 0, 1) := by decide +kernel
theorem dL_law_583 : decode cL_law 583 = .ok (.ireturn, 1) := by decide +kernel
theorem dL_law_584 : decode cL_law 584 = .ok (.iload 5, 2) := by decide +kernel
theorem dL_law_586 : decode cL_law 586 = .ok (.ifCond .ne 15, 3) := by decide +kernel
theorem dL_law_589 : decode cL_law 589 = .ok (.aload_n 3, 1) := by decide +kernel
theorem dL_law_590 : decode cL_law 590 = .ok (.iconst 0, 1) := by decide +kernel
theorem dL_law_591 : decode cL_law 591 = .ok (.laload, 1) := by decide +kernel
theorem dL_law_592 : decode cL_law 592 = .ok (.iload 6, 2) := by decide +kernel
theorem dL_law_594 : decode cL_law 594 = .ok (.i2l, 1) := by decide +kernel
theorem dL_law_595 : decode cL_law 595 = .ok (.lcmp, 1) := by decide +kernel
theorem dL_law_596 : decode cL_law 596 = .ok (.ifCond .eq 5, 3) := by decide +kernel
theorem dL_law_599 : decode cL_law 599 = .ok (.iconst 0, 1) := by decide +kernel
theorem dL_law_600 : decode cL_law 600 = .ok (.ireturn, 1) := by decide +kernel
theorem dL_law_601 : decode cL_law 601 = .ok (.goto 479, 3) := by decide +kernel
theorem dL_law_604 : decode cL_law 604 = .ok (.aload_n 1, 1) := by decide +kernel
theorem dL_law_605 : decode cL_law 605 = .ok (.aload_n 0, 1) := by decide +kernel
theorem dL_law_606 : decode cL_law 606 = .ok (.iload 4, 2) := by decide +kernel
theorem dL_law_608 : decode cL_law 608 = .ok (.iconst 1, 1) := by decide +kernel
theorem dL_law_609 : decode cL_law 609 = .ok (.iadd, 1) := by decide +kernel
theorem dL_law_610 : decode cL_law 610 = .ok (.iaload, 1) := by decide +kernel
theorem dL_law_611 : decode cL_law 611 = .ok (.aload_n 0, 1) := by decide +kernel
theorem dL_law_612 : decode cL_law 612 = .ok (.iload 4, 2) := by decide +kernel
theorem dL_law_614 : decode cL_law 614 = .ok (.iconst 2, 1) := by decide +kernel
theorem dL_law_615 : decode cL_law 615 = .ok (.iadd, 1) := by decide +kernel
theorem dL_law_616 : decode cL_law 616 = .ok (.iaload, 1) := by decide +kernel
theorem dL_law_617 : decode cL_law 617 = .ok (.aload_n 3, 1) := by decide +kernel
theorem dL_law_618 : decode cL_law 618 = .ok (.invokestatic 97, 3) := by decide +kernel
theorem dL_law_621 : decode cL_law 621 = .ok (.istore 5, 2) := by decide +kernel
theorem dL_law_623 : decode cL_law 623 = .ok (.aload_n 2, 1) := by decide +kernel
theorem dL_law_624 : decode cL_law 624 = .ok (.aload_n 0, 1) := by decide +kernel
theorem dL_law_625 : decode cL_law 625 = .ok (.iload 4, 2) := by decide +kernel
theorem dL_law_627 : decode cL_law 627 = .ok (.iconst 1, 1) := by decide +kernel
theorem dL_law_628 : decode cL_law 628 = .ok (.iadd, 1) := by decide +kernel
theorem dL_law_629 : decode cL_law 629 = .ok (.iaload, 1) := by decide +kernel
theorem dL_law_630 : decode cL_law 630 = .ok (.aload_n 0, 1) := by decide +kernel
theorem dL_law_631 : decode cL_law 631 = .ok (.iload 4, 2) := by decide +kernel
theorem dL_law_633 : decode cL_law 633 = .ok (.iconst 2, 1) := by decide +kernel
theorem dL_law_634 : decode cL_law 634 = .ok (.iadd, 1) := by decide +kernel
theorem dL_law_635 : decode cL_law 635 = .ok (.iaload, 1) := by decide +kernel
theorem dL_law_636 : decode cL_law 636 = .ok (.invokevirtual 99, 3) := by decide +kernel
theorem dL_law_639 : decode cL_law 639 = .ok (.istore 6, 2) := by decide +kernel
theorem dL_law_641 : decode cL_law 641 = .ok (.aload_n 2, 1) := by decide +kernel
theorem dL_law_642 : decode cL_law 642 = .ok (.invokevirtual 70, 3) := by decide +kernel
theorem dL_law_645 : decode cL_law 645 = .ok (.iload 5, 2) := by decide +kernel
theorem dL_law_647 : decode cL_law 647 = .ok (.if_icmp .eq 5, 3) := by decide +kernel
theorem dL_law_650 : decode cL_law 650 = .ok (.iconst 0, 1) := by decide +kernel
theorem dL_law_651 : decode cL_law 651 = .ok (.ireturn, 1) := by decide +kernel
theorem dL_law_652 : decode cL_law 652 = .ok (.iload 5, 2) := by decide +kernel
theorem dL_law_654 : decode cL_law 654 = .ok (.ifCond .ne 15, 3) := by decide +kernel
theorem dL_law_657 : decode cL_law 657 = .ok (.aload_n 3, 1) := by decide +kernel
theorem dL_law_658 : decode cL_law 658 = .ok (.iconst 0, 1) := by decide +kernel
theorem dL_law_659 : decode cL_law 659 = .ok (.laload, 1) := by decide +kernel
theorem dL_law_660 : decode cL_law 660 = .ok (.iload 6, 2) := by decide +kernel
theorem dL_law_662 : decode cL_law 662 = .ok (.i2l, 1) := by decide +kernel
theorem dL_law_663 : decode cL_law 663 = .ok (.lcmp, 1) := by decide +kernel
theorem dL_law_664 : decode cL_law 664 = .ok (.ifCond .eq 5, 3) := by decide +kernel
theorem dL_law_667 : decode cL_law 667 = .ok (.iconst 0, 1) := by decide +kernel
theorem dL_law_668 : decode cL_law 668 = .ok (.ireturn, 1) := by decide +kernel
theorem dL_law_669 : decode cL_law 669 = .ok (.goto 411, 3) := by decide +kernel
theorem dL_law_672 : decode cL_law 672 = .ok (.aload_n 1, 1) := by decide +kernel
theorem dL_law_673 : decode cL_law 673 = .ok (.aload_n 0, 1) := by decide +kernel
theorem dL_law_674 : decode cL_law 674 = .ok (.iload 4, 2) := by decide +kernel
theorem dL_law_676 : decode cL_law 676 = .ok (.iconst 1, 1) := by decide +kernel
theorem dL_law_677 : decode cL_law 677 = .ok (.iadd, 1) := by decide +kernel
theorem dL_law_678 : decode cL_law 678 = .ok (.iaload, 1) := by decide +kernel
theorem dL_law_679 : decode cL_law 679 = .ok (.aload_n 0, 1) := by decide +kernel
theorem dL_law_680 : decode cL_law 680 = .ok (.iload 4, 2) := by decide +kernel
theorem dL_law_682 : decode cL_law 682 = .ok (.iconst 2, 1) := by decide +kernel
theorem dL_law_683 : decode cL_law 683 = .ok (.iadd, 1) := by decide +kernel
theorem dL_law_684 : decode cL_law 684 = .ok (.iaload, 1) := by decide +kernel
theorem dL_law_685 : decode cL_law 685 = .ok (.aload_n 3, 1) := by decide +kernel
theorem dL_law_686 : decode cL_law 686 = .ok (.invokestatic 100, 3) := by decide +kernel
theorem dL_law_689 : decode cL_law 689 = .ok (.istore 5, 2) := by decide +kernel
theorem dL_law_691 : decode cL_law 691 = .ok (.aload_n 2, 1) := by decide +kernel
theorem dL_law_692 : decode cL_law 692 = .ok (.aload_n 0, 1) := by decide +kernel
theorem dL_law_693 : decode cL_law 693 = .ok (.iload 4, 2) := by decide +kernel
theorem dL_law_695 : decode cL_law 695 = .ok (.iconst 1, 1) := by decide +kernel
theorem dL_law_696 : decode cL_law 696 = .ok (.iadd, 1) := by decide +kernel
theorem dL_law_697 : decode cL_law 697 = .ok (.iaload, 1) := by decide +kernel
theorem dL_law_698 : decode cL_law 698 = .ok (.aload_n 0, 1) := by decide +kernel
theorem dL_law_699 : decode cL_law 699 = .ok (.iload 4, 2) := by decide +kernel
theorem dL_law_701 : decode cL_law 701 = .ok (.iconst 2, 1) := by decide +kernel
theorem dL_law_702 : decode cL_law 702 = .ok (.iadd, 1) := by decide +kernel
theorem dL_law_703 : decode cL_law 703 = .ok (.iaload, 1) := by decide +kernel
theorem dL_law_704 : decode cL_law 704 = .ok (.invokevirtual 102, 3) := by decide +kernel
theorem dL_law_707 : decode cL_law 707 = .ok (.istore 6, 2) := by decide +kernel
theorem dL_law_709 : decode cL_law 709 = .ok (.aload_n 2, 1) := by decide +kernel
theorem dL_law_710 : decode cL_law 710 = .ok (.invokevirtual 70, 3) := by decide +kernel
theorem dL_law_713 : decode cL_law 713 = .ok (.iload 5, 2) := by decide +kernel
theorem dL_law_715 : decode cL_law 715 = .ok (.if_icmp .eq 5, 3) := by decide +kernel
theorem dL_law_718 : decode cL_law 718 = .ok (.iconst 0, 1) := by decide +kernel
theorem dL_law_719 : decode cL_law 719 = .ok (.ireturn, 1) := by decide +kernel
theorem dL_law_720 : decode cL_law 720 = .ok (.iload 5, 2) := by decide +kernel
theorem dL_law_722 : decode cL_law 722 = .ok (.ifCond .ne 15, 3) := by decide +kernel
theorem dL_law_725 : decode cL_law 725 = .ok (.aload_n 3, 1) := by decide +kernel
theorem dL_law_726 : decode cL_law 726 = .ok (.iconst 0, 1) := by decide +kernel
theorem dL_law_727 : decode cL_law 727 = .ok (.laload, 1) := by decide +kernel
theorem dL_law_728 : decode cL_law 728 = .ok (.iload 6, 2) := by decide +kernel
theorem dL_law_730 : decode cL_law 730 = .ok (.i2l, 1) := by decide +kernel
theorem dL_law_731 : decode cL_law 731 = .ok (.lcmp, 1) := by decide +kernel
theorem dL_law_732 : decode cL_law 732 = .ok (.ifCond .eq 5, 3) := by decide +kernel
theorem dL_law_735 : decode cL_law 735 = .ok (.iconst 0, 1) := by decide +kernel
theorem dL_law_736 : decode cL_law 736 = .ok (.ireturn, 1) := by decide +kernel
theorem dL_law_737 : decode cL_law 737 = .ok (.goto 343, 3) := by decide +kernel
theorem dL_law_740 : decode cL_law 740 = .ok (.aload_n 1, 1) := by decide +kernel
theorem dL_law_741 : decode cL_law 741 = .ok (.aload_n 0, 1) := by decide +kernel
theorem dL_law_742 : decode cL_law 742 = .ok (.iload 4, 2) := by decide +kernel
theorem dL_law_744 : decode cL_law 744 = .ok (.iconst 1, 1) := by decide +kernel
theorem dL_law_745 : decode cL_law 745 = .ok (.iadd, 1) := by decide +kernel
theorem dL_law_746 : decode cL_law 746 = .ok (.iaload, 1) := by decide +kernel
theorem dL_law_747 : decode cL_law 747 = .ok (.aload_n 3, 1) := by decide +kernel
theorem dL_law_748 : decode cL_law 748 = .ok (.invokestatic 103, 3) := by decide +kernel
theorem dL_law_751 : decode cL_law 751 = .ok (.istore 5, 2) := by decide +kernel
theorem dL_law_753 : decode cL_law 753 = .ok (.aload_n 2, 1) := by decide +kernel
theorem dL_law_754 : decode cL_law 754 = .ok (.aload_n 0, 1) := by decide +kernel
theorem dL_law_755 : decode cL_law 755 = .ok (.iload 4, 2) := by decide +kernel
theorem dL_law_757 : decode cL_law 757 = .ok (.iconst 1, 1) := by decide +kernel
theorem dL_law_758 : decode cL_law 758 = .ok (.iadd, 1) := by decide +kernel
theorem dL_law_759 : decode cL_law 759 = .ok (.iaload, 1) := by decide +kernel
theorem dL_law_760 : decode cL_law 760 = .ok (.invokevirtual 105, 3) := by decide +kernel
theorem dL_law_763 : decode cL_law 763 = .ok (.istore 6, 2) := by decide +kernel
theorem dL_law_765 : decode cL_law 765 = .ok (.aload_n 2, 1) := by decide +kernel
theorem dL_law_766 : decode cL_law 766 = .ok (.invokevirtual 70, 3) := by decide +kernel
theorem dL_law_769 : decode cL_law 769 = .ok (.iload 5, 2) := by decide +kernel
theorem dL_law_771 : decode cL_law 771 = .ok (.if_icmp .eq 5, 3) := by decide +kernel
theorem dL_law_774 : decode cL_law 774 = .ok (.iconst 0, 1) := by decide +kernel
theorem dL_law_775 : decode cL_law 775 = .ok (.ireturn, 1) := by decide +kernel
theorem dL_law_776 : decode cL_law 776 = .ok (.iload 5, 2) := by decide +kernel
theorem dL_law_778 : decode cL_law 778 = .ok (.ifCond .ne 15, 3) := by decide +kernel
theorem dL_law_781 : decode cL_law 781 = .ok (.aload_n 3, 1) := by decide +kernel
theorem dL_law_782 : decode cL_law 782 = .ok (.iconst 0, 1) := by decide +kernel
theorem dL_law_783 : decode cL_law 783 = .ok (.laload, 1) := by decide +kernel
theorem dL_law_784 : decode cL_law 784 = .ok (.iload 6, 2) := by decide +kernel
theorem dL_law_786 : decode cL_law 786 = .ok (.i2l, 1) := by decide +kernel
theorem dL_law_787 : decode cL_law 787 = .ok (.lcmp, 1) := by decide +kernel
theorem dL_law_788 : decode cL_law 788 = .ok (.ifCond .eq 5, 3) := by decide +kernel
theorem dL_law_791 : decode cL_law 791 = .ok (.iconst 0, 1) := by decide +kernel
theorem dL_law_792 : decode cL_law 792 = .ok (.ireturn, 1) := by decide +kernel
theorem dL_law_793 : decode cL_law 793 = .ok (.goto 287, 3) := by decide +kernel
theorem dL_law_796 : decode cL_law 796 = .ok (.aload_n 1, 1) := by decide +kernel
theorem dL_law_797 : decode cL_law 797 = .ok (.invokevirtual 106, 3) := by decide +kernel
theorem dL_law_800 : decode cL_law 800 = .ok (.aload_n 2, 1) := by decide +kernel
theorem dL_law_801 : decode cL_law 801 = .ok (.invokevirtual 109, 3) := by decide +kernel
theorem dL_law_804 : decode cL_law 804 = .ok (.if_icmp .eq 276, 3) := by decide +kernel
theorem dL_law_807 : decode cL_law 807 = .ok (.iconst 0, 1) := by decide +kernel
theorem dL_law_808 : decode cL_law 808 = .ok (.ireturn, 1) := by decide +kernel
theorem dL_law_809 : decode cL_law 809 = .ok (.aload_n 1, 1) := by decide +kernel
theorem dL_law_810 : decode cL_law 810 = .ok (.aload_n 0, 1) := by decide +kernel
theorem dL_law_811 : decode cL_law 811 = .ok (.iload 4, 2) := by decide +kernel
theorem dL_law_813 : decode cL_law 813 = .ok (.iconst 1, 1) := by decide +kernel
theorem dL_law_814 : decode cL_law 814 = .ok (.iadd, 1) := by decide +kernel
theorem dL_law_815 : decode cL_law 815 = .ok (.iaload, 1) := by decide +kernel
theorem dL_law_816 : decode cL_law 816 = .ok (.aload_n 3, 1) := by decide +kernel
theorem dL_law_817 : decode cL_law 817 = .ok (.invokestatic 110, 3) := by decide +kernel
theorem dL_law_820 : decode cL_law 820 = .ok (.istore 5, 2) := by decide +kernel
theorem dL_law_822 : decode cL_law 822 = .ok (.aload_n 2, 1) := by decide +kernel
theorem dL_law_823 : decode cL_law 823 = .ok (.aload_n 0, 1) := by decide +kernel
theorem dL_law_824 : decode cL_law 824 = .ok (.iload 4, 2) := by decide +kernel
theorem dL_law_826 : decode cL_law 826 = .ok (.iconst 1, 1) := by decide +kernel
theorem dL_law_827 : decode cL_law 827 = .ok (.iadd, 1) := by decide +kernel
theorem dL_law_828 : decode cL_law 828 = .ok (.iaload, 1) := by decide +kernel
theorem dL_law_829 : decode cL_law 829 = .ok (.invokevirtual 112, 3) := by decide +kernel
theorem dL_law_832 : decode cL_law 832 = .ok (.istore 6, 2) := by decide +kernel
theorem dL_law_834 : decode cL_law 834 = .ok (.aload_n 2, 1) := by decide +kernel
theorem dL_law_835 : decode cL_law 835 = .ok (.invokevirtual 70, 3) := by decide +kernel
theorem dL_law_838 : decode cL_law 838 = .ok (.iload 5, 2) := by decide +kernel
theorem dL_law_840 : decode cL_law 840 = .ok (.if_icmp .eq 5, 3) := by decide +kernel
theorem dL_law_843 : decode cL_law 843 = .ok (.iconst 0, 1) := by decide +kernel
theorem dL_law_844 : decode cL_law 844 = .ok (.ireturn, 1) := by decide +kernel
theorem dL_law_845 : decode cL_law 845 = .ok (.iload 5, 2) := by decide +kernel
theorem dL_law_847 : decode cL_law 847 = .ok (.ifCond .ne 15, 3) := by decide +kernel
theorem dL_law_850 : decode cL_law 850 = .ok (.aload_n 3, 1) := by decide +kernel
theorem dL_law_851 : decode cL_law 851 = .ok (.iconst 0, 1) := by decide +kernel
theorem dL_law_852 : decode cL_law 852 = .ok (.laload, 1) := by decide +kernel
theorem dL_law_853 : decode cL_law 853 = .ok (.iload 6, 2) := by decide +kernel
theorem dL_law_855 : decode cL_law 855 = .ok (.i2l, 1) := by decide +kernel
theorem dL_law_856 : decode cL_law 856 = .ok (.lcmp, 1) := by decide +kernel
theorem dL_law_857 : decode cL_law 857 = .ok (.ifCond .eq 5, 3) := by decide +kernel
theorem dL_law_860 : decode cL_law 860 = .ok (.iconst 0, 1) := by decide +kernel
theorem dL_law_861 : decode cL_law 861 = .ok (.ireturn, 1) := by decide +kernel
theorem dL_law_862 : decode cL_law 862 = .ok (.goto 218, 3) := by decide +kernel
theorem dL_law_865 : decode cL_law 865 = .ok (.aload_n 1, 1) := by decide +kernel
theorem dL_law_866 : decode cL_law 866 = .ok (.aload_n 0, 1) := by decide +kernel
theorem dL_law_867 : decode cL_law 867 = .ok (.iload 4, 2) := by decide +kernel
theorem dL_law_869 : decode cL_law 869 = .ok (.iconst 1, 1) := by decide +kernel
theorem dL_law_870 : decode cL_law 870 = .ok (.iadd, 1) := by decide +kernel
theorem dL_law_871 : decode cL_law 871 = .ok (.iaload, 1) := by decide +kernel
theorem dL_law_872 : decode cL_law 872 = .ok (.aload_n 0, 1) := by decide +kernel
theorem dL_law_873 : decode cL_law 873 = .ok (.iload 4, 2) := by decide +kernel
theorem dL_law_875 : decode cL_law 875 = .ok (.iconst 2, 1) := by decide +kernel
theorem dL_law_876 : decode cL_law 876 = .ok (.iadd, 1) := by decide +kernel
theorem dL_law_877 : decode cL_law 877 = .ok (.iaload, 1) := by decide +kernel
theorem dL_law_878 : decode cL_law 878 = .ok (.aload_n 0, 1) := by decide +kernel
theorem dL_law_879 : decode cL_law 879 = .ok (.iload 4, 2) := by decide +kernel
theorem dL_law_881 : decode cL_law 881 = .ok (.iconst 3, 1) := by decide +kernel
theorem dL_law_882 : decode cL_law 882 = .ok (.iadd, 1) := by decide +kernel
theorem dL_law_883 : decode cL_law 883 = .ok (.iaload, 1) := by decide +kernel
theorem dL_law_884 : decode cL_law 884 = .ok (.aload_n 3, 1) := by decide +kernel
theorem dL_law_885 : decode cL_law 885 = .ok (.invokestatic 113, 3) := by decide +kernel
theorem dL_law_888 : decode cL_law 888 = .ok (.istore 5, 2) := by decide +kernel
theorem dL_law_890 : decode cL_law 890 = .ok (.aload_n 2, 1) := by decide +kernel
theorem dL_law_891 : decode cL_law 891 = .ok (.aload_n 0, 1) := by decide +kernel
theorem dL_law_892 : decode cL_law 892 = .ok (.iload 4, 2) := by decide +kernel
theorem dL_law_894 : decode cL_law 894 = .ok (.iconst 1, 1) := by decide +kernel
theorem dL_law_895 : decode cL_law 895 = .ok (.iadd, 1) := by decide +kernel
theorem dL_law_896 : decode cL_law 896 = .ok (.iaload, 1) := by decide +kernel
theorem dL_law_897 : decode cL_law 897 = .ok (.aload_n 0, 1) := by decide +kernel
theorem dL_law_898 : decode cL_law 898 = .ok (.iload 4, 2) := by decide +kernel
theorem dL_law_900 : decode cL_law 900 = .ok (.iconst 2, 1) := by decide +kernel
theorem dL_law_901 : decode cL_law 901 = .ok (.iadd, 1) := by decide +kernel
theorem dL_law_902 : decode cL_law 902 = .ok (.iaload, 1) := by decide +kernel
theorem dL_law_903 : decode cL_law 903 = .ok (.aload_n 0, 1) := by decide +kernel
theorem dL_law_904 : decode cL_law 904 = .ok (.iload 4, 2) := by decide +kernel
theorem dL_law_906 : decode cL_law 906 = .ok (.iconst 3, 1) := by decide +kernel
theorem dL_law_907 : decode cL_law 907 = .ok (.iadd, 1) := by decide +kernel
theorem dL_law_908 : decode cL_law 908 = .ok (.iaload, 1) := by decide +kernel
theorem dL_law_909 : decode cL_law 909 = .ok (.invokevirtual 115, 3) := by decide +kernel
theorem dL_law_912 : decode cL_law 912 = .ok (.istore 6, 2) := by decide +kernel
theorem dL_law_914 : decode cL_law 914 = .ok (.aload_n 2, 1) := by decide +kernel
theorem dL_law_915 : decode cL_law 915 = .ok (.invokevirtual 70, 3) := by decide +kernel
theorem dL_law_918 : decode cL_law 918 = .ok (.iload 5, 2) := by decide +kernel
theorem dL_law_920 : decode cL_law 920 = .ok (.if_icmp .eq 5, 3) := by decide +kernel
theorem dL_law_923 : decode cL_law 923 = .ok (.iconst 0, 1) := by decide +kernel
theorem dL_law_924 : decode cL_law 924 = .ok (.ireturn, 1) := by decide +kernel
theorem dL_law_925 : decode cL_law 925 = .ok (.iload 5, 2) := by decide +kernel
theorem dL_law_927 : decode cL_law 927 = .ok (.ifCond .ne 15, 3) := by decide +kernel
theorem dL_law_930 : decode cL_law 930 = .ok (.aload_n 3, 1) := by decide +kernel
theorem dL_law_931 : decode cL_law 931 = .ok (.iconst 0, 1) := by decide +kernel
theorem dL_law_932 : decode cL_law 932 = .ok (.laload, 1) := by decide +kernel
theorem dL_law_933 : decode cL_law 933 = .ok (.iload 6, 2) := by decide +kernel
theorem dL_law_935 : decode cL_law 935 = .ok (.i2l, 1) := by decide +kernel
theorem dL_law_936 : decode cL_law 936 = .ok (.lcmp, 1) := by decide +kernel
theorem dL_law_937 : decode cL_law 937 = .ok (.ifCond .eq 5, 3) := by decide +kernel
theorem dL_law_940 : decode cL_law 940 = .ok (.iconst 0, 1) := by decide +kernel
theorem dL_law_941 : decode cL_law 941 = .ok (.ireturn, 1) := by decide +kernel
theorem dL_law_942 : decode cL_law 942 = .ok (.goto 138, 3) := by decide +kernel
theorem dL_law_945 : decode cL_law 945 = .ok (.aload_n 1, 1) := by decide +kernel
theorem dL_law_946 : decode cL_law 946 = .ok (.aload_n 0, 1) := by decide +kernel
theorem dL_law_947 : decode cL_law 947 = .ok (.iload 4, 2) := by decide +kernel
theorem dL_law_949 : decode cL_law 949 = .ok (.iconst 1, 1) := by decide +kernel
theorem dL_law_950 : decode cL_law 950 = .ok (.iadd, 1) := by decide +kernel
theorem dL_law_951 : decode cL_law 951 = .ok (.iaload, 1) := by decide +kernel
theorem dL_law_952 : decode cL_law 952 = .ok (.aload_n 0, 1) := by decide +kernel
theorem dL_law_953 : decode cL_law 953 = .ok (.iload 4, 2) := by decide +kernel
theorem dL_law_955 : decode cL_law 955 = .ok (.iconst 2, 1) := by decide +kernel
theorem dL_law_956 : decode cL_law 956 = .ok (.iadd, 1) := by decide +kernel
theorem dL_law_957 : decode cL_law 957 = .ok (.iaload, 1) := by decide +kernel
theorem dL_law_958 : decode cL_law 958 = .ok (.aload_n 0, 1) := by decide +kernel
theorem dL_law_959 : decode cL_law 959 = .ok (.iload 4, 2) := by decide +kernel
theorem dL_law_961 : decode cL_law 961 = .ok (.iconst 3, 1) := by decide +kernel
theorem dL_law_962 : decode cL_law 962 = .ok (.iadd, 1) := by decide +kernel
theorem dL_law_963 : decode cL_law 963 = .ok (.iaload, 1) := by decide +kernel
theorem dL_law_964 : decode cL_law 964 = .ok (.aload_n 3, 1) := by decide +kernel
theorem dL_law_965 : decode cL_law 965 = .ok (.invokestatic 116, 3) := by decide +kernel
theorem dL_law_968 : decode cL_law 968 = .ok (.istore 5, 2) := by decide +kernel
theorem dL_law_970 : decode cL_law 970 = .ok (.aload_n 2, 1) := by decide +kernel
theorem dL_law_971 : decode cL_law 971 = .ok (.aload_n 0, 1) := by decide +kernel
theorem dL_law_972 : decode cL_law 972 = .ok (.iload 4, 2) := by decide +kernel
theorem dL_law_974 : decode cL_law 974 = .ok (.iconst 1, 1) := by decide +kernel
theorem dL_law_975 : decode cL_law 975 = .ok (.iadd, 1) := by decide +kernel
theorem dL_law_976 : decode cL_law 976 = .ok (.iaload, 1) := by decide +kernel
theorem dL_law_977 : decode cL_law 977 = .ok (.aload_n 0, 1) := by decide +kernel
theorem dL_law_978 : decode cL_law 978 = .ok (.iload 4, 2) := by decide +kernel
theorem dL_law_980 : decode cL_law 980 = .ok (.iconst 2, 1) := by decide +kernel
theorem dL_law_981 : decode cL_law 981 = .ok (.iadd, 1) := by decide +kernel
theorem dL_law_982 : decode cL_law 982 = .ok (.iaload, 1) := by decide +kernel
theorem dL_law_983 : decode cL_law 983 = .ok (.aload_n 0, 1) := by decide +kernel
theorem dL_law_984 : decode cL_law 984 = .ok (.iload 4, 2) := by decide +kernel
theorem dL_law_986 : decode cL_law 986 = .ok (.iconst 3, 1) := by decide +kernel
theorem dL_law_987 : decode cL_law 987 = .ok (.iadd, 1) := by decide +kernel
theorem dL_law_988 : decode cL_law 988 = .ok (.iaload, 1) := by decide +kernel
theorem dL_law_989 : decode cL_law 989 = .ok (.invokevirtual 118, 3) := by decide +kernel
theorem dL_law_992 : decode cL_law 992 = .ok (.istore 6, 2) := by decide +kernel
theorem dL_law_994 : decode cL_law 994 = .ok (.aload_n 2, 1) := by decide +kernel
theorem dL_law_995 : decode cL_law 995 = .ok (.invokevirtual 70, 3) := by decide +kernel
theorem dL_law_998 : decode cL_law 998 = .ok (.iload 5, 2) := by decide +kernel
theorem dL_law_1000 : decode cL_law 1000 = .ok (.if_icmp .eq 5, 3) := by decide +kernel
theorem dL_law_1003 : decode cL_law 1003 = .ok (.iconst 0, 1) := by decide +kernel
theorem dL_law_1004 : decode cL_law 1004 = .ok (.ireturn, 1) := by decide +kernel
theorem dL_law_1005 : decode cL_law 1005 = .ok (.iload 5, 2) := by decide +kernel
theorem dL_law_1007 : decode cL_law 1007 = .ok (.ifCond .ne 15, 3) := by decide +kernel
theorem dL_law_1010 : decode cL_law 1010 = .ok (.aload_n 3, 1) := by decide +kernel
theorem dL_law_1011 : decode cL_law 1011 = .ok (.iconst 0, 1) := by decide +kernel
theorem dL_law_1012 : decode cL_law 1012 = .ok (.laload, 1) := by decide +kernel
theorem dL_law_1013 : decode cL_law 1013 = .ok (.iload 6, 2) := by decide +kernel
theorem dL_law_1015 : decode cL_law 1015 = .ok (.i2l, 1) := by decide +kernel
theorem dL_law_1016 : decode cL_law 1016 = .ok (.lcmp, 1) := by decide +kernel
theorem dL_law_1017 : decode cL_law 1017 = .ok (.ifCond .eq 5, 3) := by decide +kernel
theorem dL_law_1020 : decode cL_law 1020 = .ok (.iconst 0, 1) := by decide +kernel
theorem dL_law_1021 : decode cL_law 1021 = .ok (.ireturn, 1) := by decide +kernel
theorem dL_law_1022 : decode cL_law 1022 = .ok (.goto 58, 3) := by decide +kernel
theorem dL_law_1025 : decode cL_law 1025 = .ok (.aload_n 1, 1) := by decide +kernel
theorem dL_law_1026 : decode cL_law 1026 = .ok (.invokevirtual 119, 3) := by decide +kernel
theorem dL_law_1029 : decode cL_law 1029 = .ok (.dstore 5, 2) := by decide +kernel
theorem dL_law_1031 : decode cL_law 1031 = .ok (.aload_n 2, 1) := by decide +kernel
theorem dL_law_1032 : decode cL_law 1032 = .ok (.invokevirtual 123, 3) := by decide +kernel
theorem dL_law_1035 : decode cL_law 1035 = .ok (.dstore 7, 2) := by decide +kernel
theorem dL_law_1037 : decode cL_law 1037 = .ok (.dload 5, 2) := by decide +kernel
theorem dL_law_1039 : decode cL_law 1039 = .ok (.dload 7, 2) := by decide +kernel
theorem dL_law_1041 : decode cL_law 1041 = .ok (.dcmp .l, 1) := by decide +kernel
theorem dL_law_1042 : decode cL_law 1042 = .ok (.ifCond .eq 21, 3) := by decide +kernel
theorem dL_law_1045 : decode cL_law 1045 = .ok (.dload 5, 2) := by decide +kernel
theorem dL_law_1047 : decode cL_law 1047 = .ok (.dload 5, 2) := by decide +kernel
theorem dL_law_1049 : decode cL_law 1049 = .ok (.dcmp .l, 1) := by decide +kernel
theorem dL_law_1050 : decode cL_law 1050 = .ok (.ifCond .eq 11, 3) := by decide +kernel
theorem dL_law_1053 : decode cL_law 1053 = .ok (.dload 7, 2) := by decide +kernel
theorem dL_law_1055 : decode cL_law 1055 = .ok (.dload 7, 2) := by decide +kernel
theorem dL_law_1057 : decode cL_law 1057 = .ok (.dcmp .l, 1) := by decide +kernel
theorem dL_law_1058 : decode cL_law 1058 = .ok (.ifCond .ne 5, 3) := by decide +kernel
theorem dL_law_1061 : decode cL_law 1061 = .ok (.iconst 0, 1) := by decide +kernel
theorem dL_law_1062 : decode cL_law 1062 = .ok (.ireturn, 1) := by decide +kernel
theorem dL_law_1063 : decode cL_law 1063 = .ok (.goto 17, 3) := by decide +kernel
theorem dL_law_1066 : decode cL_law 1066 = .ok (.aload_n 1, 1) := by decide +kernel
theorem dL_law_1067 : decode cL_law 1067 = .ok (.invokevirtual 124, 3) := by decide +kernel
theorem dL_law_1070 : decode cL_law 1070 = .ok (.aload_n 2, 1) := by decide +kernel
theorem dL_law_1071 : decode cL_law 1071 = .ok (.invokevirtual 128, 3) := by decide +kernel
theorem dL_law_1074 : decode cL_law 1074 = .ok (.lcmp, 1) := by decide +kernel
theorem dL_law_1075 : decode cL_law 1075 = .ok (.ifCond .eq 5, 3) := by decide +kernel
theorem dL_law_1078 : decode cL_law 1078 = .ok (.iconst 0, 1) := by decide +kernel
theorem dL_law_1079 : decode cL_law 1079 = .ok (.ireturn, 1) := by decide +kernel
theorem dL_law_1080 : decode cL_law 1080 = .ok (.iinc 4 4, 3) := by decide +kernel
theorem dL_law_1083 : decode cL_law 1083 = .ok (.goto (-1060), 3) := by decide +kernel
theorem dL_law_1086 : decode cL_law 1086 = .ok (.iconst 1, 1) := by decide +kernel
theorem dL_law_1087 : decode cL_law 1087 = .ok (.ireturn, 1) := by decide +kernel
end
section
/-! the words of wsL_law by their places, and what each call needs -/
/-- what a call needs of the tables: instance, static, constructor -/
def CWV (own : String) (ix : Nat) (y : MethodName) (bytes : ByteArray) (maxL : Nat) (ret : Option FieldType) (n : Nat) : Prop :=
  Cond.methodLink own ix y ∈ wsL_law ∧ Cond.instanceMethod y ∈ wsL_law ∧ Cond.selects y.cls y y ∈ wsL_law ∧ Cond.initialized y.cls ∈ wsL_law ∧ Cond.code y bytes maxL ret ∈ wsL_law ∧ (y.cls ≠ "java/lang/invoke/MethodHandle" ∧ y.cls ≠ "java/lang/invoke/VarHandle" ∧ (parseMethodDescriptor y.desc).map (fun d => d.parameters.length) = some n)
def CWS (own : String) (ix : Nat) (y : MethodName) (bytes : ByteArray) (maxL : Nat) (ret : Option FieldType) (n : Nat) : Prop :=
  Cond.methodLink own ix y ∈ wsL_law ∧ Cond.static y ∈ wsL_law ∧ Cond.initialized y.cls ∈ wsL_law ∧ Cond.code y bytes maxL ret ∈ wsL_law ∧ (y.cls ≠ "java/lang/invoke/MethodHandle" ∧ y.cls ≠ "java/lang/invoke/VarHandle" ∧ (parseMethodDescriptor y.desc).map (fun d => d.parameters.length) = some n)
def CWI (own : String) (ix : Nat) (y : MethodName) (bytes : ByteArray) (maxL : Nat) (n : Nat) : Prop :=
  Cond.methodLink own ix y ∈ wsL_law ∧ Cond.instanceMethod y ∈ wsL_law ∧ Cond.initialized y.cls ∈ wsL_law ∧ Cond.code y bytes maxL none ∈ wsL_law ∧ y.name = "<init>" ∧ (y.cls ≠ "java/lang/invoke/MethodHandle" ∧ y.cls ≠ "java/lang/invoke/VarHandle" ∧ (parseMethodDescriptor y.desc).map (fun d => d.parameters.length) = some n)
theorem in_r1 : ∀ w ∈ wsL_law0_r1, w ∈ wsL_law := fun _ h => List.mem_append_left _ (List.mem_append_left _ (List.mem_append_left _ (List.mem_append_left _ (List.mem_append_left _ (List.mem_append_left _ (List.mem_append_left _ (List.mem_append_left _ (List.mem_append_left _ (List.mem_append_left _ h)))))))))
theorem in_r2 : ∀ w ∈ wsL_law0_r2, w ∈ wsL_law := fun _ h => List.mem_append_left _ (List.mem_append_left _ (List.mem_append_left _ (List.mem_append_left _ (List.mem_append_left _ (List.mem_append_left _ (List.mem_append_left _ (List.mem_append_left _ (List.mem_append_left _ (List.mem_append_right _ (List.mem_append_left _ h))))))))))
theorem in_r3 : ∀ w ∈ wsL_law0_r3, w ∈ wsL_law := fun _ h => List.mem_append_left _ (List.mem_append_left _ (List.mem_append_left _ (List.mem_append_left _ (List.mem_append_left _ (List.mem_append_left _ (List.mem_append_left _ (List.mem_append_left _ (List.mem_append_left _ (List.mem_append_right _ (List.mem_append_right _ (List.mem_append_left _ h)))))))))))
theorem in_r4 : ∀ w ∈ wsL_law0_r4, w ∈ wsL_law := fun _ h => List.mem_append_left _ (List.mem_append_left _ (List.mem_append_left _ (List.mem_append_left _ (List.mem_append_left _ (List.mem_append_left _ (List.mem_append_left _ (List.mem_append_left _ (List.mem_append_left _ (List.mem_append_right _ (List.mem_append_right _ (List.mem_append_right _ (List.mem_append_left _ h))))))))))))
theorem in_r5 : ∀ w ∈ wsL_law0_r5, w ∈ wsL_law := fun _ h => List.mem_append_left _ (List.mem_append_left _ (List.mem_append_left _ (List.mem_append_left _ (List.mem_append_left _ (List.mem_append_left _ (List.mem_append_left _ (List.mem_append_left _ (List.mem_append_left _ (List.mem_append_right _ (List.mem_append_right _ (List.mem_append_right _ (List.mem_append_right _ (List.mem_append_left _ h)))))))))))))
theorem in_r6 : ∀ w ∈ wsL_law0_r6, w ∈ wsL_law := fun _ h => List.mem_append_left _ (List.mem_append_left _ (List.mem_append_left _ (List.mem_append_left _ (List.mem_append_left _ (List.mem_append_left _ (List.mem_append_left _ (List.mem_append_left _ (List.mem_append_left _ (List.mem_append_right _ (List.mem_append_right _ (List.mem_append_right _ (List.mem_append_right _ (List.mem_append_right _ (List.mem_append_left _ h))))))))))))))
theorem in_r7 : ∀ w ∈ wsL_law0_r7, w ∈ wsL_law := fun _ h => List.mem_append_left _ (List.mem_append_left _ (List.mem_append_left _ (List.mem_append_left _ (List.mem_append_left _ (List.mem_append_left _ (List.mem_append_left _ (List.mem_append_left _ (List.mem_append_left _ (List.mem_append_right _ (List.mem_append_right _ (List.mem_append_right _ (List.mem_append_right _ (List.mem_append_right _ (List.mem_append_right _ (List.mem_append_left _ h)))))))))))))))
theorem in_r8 : ∀ w ∈ wsL_law0_r8, w ∈ wsL_law := fun _ h => List.mem_append_left _ (List.mem_append_left _ (List.mem_append_left _ (List.mem_append_left _ (List.mem_append_left _ (List.mem_append_left _ (List.mem_append_left _ (List.mem_append_left _ (List.mem_append_left _ (List.mem_append_right _ (List.mem_append_right _ (List.mem_append_right _ (List.mem_append_right _ (List.mem_append_right _ (List.mem_append_right _ (List.mem_append_right _ (List.mem_append_left _ h))))))))))))))))
theorem in_r9 : ∀ w ∈ wsL_law0_r9, w ∈ wsL_law := fun _ h => List.mem_append_left _ (List.mem_append_left _ (List.mem_append_left _ (List.mem_append_left _ (List.mem_append_left _ (List.mem_append_left _ (List.mem_append_left _ (List.mem_append_left _ (List.mem_append_left _ (List.mem_append_right _ (List.mem_append_right _ (List.mem_append_right _ (List.mem_append_right _ (List.mem_append_right _ (List.mem_append_right _ (List.mem_append_right _ (List.mem_append_right _ (List.mem_append_left _ h)))))))))))))))))
theorem in_r10 : ∀ w ∈ wsL_law0_r10, w ∈ wsL_law := fun _ h => List.mem_append_left _ (List.mem_append_left _ (List.mem_append_left _ (List.mem_append_left _ (List.mem_append_left _ (List.mem_append_left _ (List.mem_append_left _ (List.mem_append_left _ (List.mem_append_left _ (List.mem_append_right _ (List.mem_append_right _ (List.mem_append_right _ (List.mem_append_right _ (List.mem_append_right _ (List.mem_append_right _ (List.mem_append_right _ (List.mem_append_right _ (List.mem_append_right _ (List.mem_append_left _ h))))))))))))))))))
theorem in_r11 : ∀ w ∈ wsL_law0_r11, w ∈ wsL_law := fun _ h => List.mem_append_left _ (List.mem_append_left _ (List.mem_append_left _ (List.mem_append_left _ (List.mem_append_left _ (List.mem_append_left _ (List.mem_append_left _ (List.mem_append_left _ (List.mem_append_left _ (List.mem_append_right _ (List.mem_append_right _ (List.mem_append_right _ (List.mem_append_right _ (List.mem_append_right _ (List.mem_append_right _ (List.mem_append_right _ (List.mem_append_right _ (List.mem_append_right _ (List.mem_append_right _ (List.mem_append_left _ h)))))))))))))))))))
theorem in_r12 : ∀ w ∈ wsL_law0_r12, w ∈ wsL_law := fun _ h => List.mem_append_left _ (List.mem_append_left _ (List.mem_append_left _ (List.mem_append_left _ (List.mem_append_left _ (List.mem_append_left _ (List.mem_append_left _ (List.mem_append_left _ (List.mem_append_left _ (List.mem_append_right _ (List.mem_append_right _ (List.mem_append_right _ (List.mem_append_right _ (List.mem_append_right _ (List.mem_append_right _ (List.mem_append_right _ (List.mem_append_right _ (List.mem_append_right _ (List.mem_append_right _ (List.mem_append_right _ (List.mem_append_left _ h))))))))))))))))))))
theorem in_r13 : ∀ w ∈ wsL_law0_r13, w ∈ wsL_law := fun _ h => List.mem_append_left _ (List.mem_append_left _ (List.mem_append_left _ (List.mem_append_left _ (List.mem_append_left _ (List.mem_append_left _ (List.mem_append_left _ (List.mem_append_left _ (List.mem_append_left _ (List.mem_append_right _ (List.mem_append_right _ (List.mem_append_right _ (List.mem_append_right _ (List.mem_append_right _ (List.mem_append_right _ (List.mem_append_right _ (List.mem_append_right _ (List.mem_append_right _ (List.mem_append_right _ (List.mem_append_right _ (List.mem_append_right _ (List.mem_append_left _ h)))))))))))))))))))))
theorem in_r14 : ∀ w ∈ wsL_law0_r14, w ∈ wsL_law := fun _ h => List.mem_append_left _ (List.mem_append_left _ (List.mem_append_left _ (List.mem_append_left _ (List.mem_append_left _ (List.mem_append_left _ (List.mem_append_left _ (List.mem_append_left _ (List.mem_append_left _ (List.mem_append_right _ (List.mem_append_right _ (List.mem_append_right _ (List.mem_append_right _ (List.mem_append_right _ (List.mem_append_right _ (List.mem_append_right _ (List.mem_append_right _ (List.mem_append_right _ (List.mem_append_right _ (List.mem_append_right _ (List.mem_append_right _ (List.mem_append_right _ (List.mem_append_left _ h))))))))))))))))))))))
theorem in_r15 : ∀ w ∈ wsL_law0_r15, w ∈ wsL_law := fun _ h => List.mem_append_left _ (List.mem_append_left _ (List.mem_append_left _ (List.mem_append_left _ (List.mem_append_left _ (List.mem_append_left _ (List.mem_append_left _ (List.mem_append_left _ (List.mem_append_left _ (List.mem_append_right _ (List.mem_append_right _ (List.mem_append_right _ (List.mem_append_right _ (List.mem_append_right _ (List.mem_append_right _ (List.mem_append_right _ (List.mem_append_right _ (List.mem_append_right _ (List.mem_append_right _ (List.mem_append_right _ (List.mem_append_right _ (List.mem_append_right _ (List.mem_append_right _ (List.mem_append_left _ h)))))))))))))))))))))))
theorem in_r16 : ∀ w ∈ wsL_law0_r16, w ∈ wsL_law := fun _ h => List.mem_append_left _ (List.mem_append_left _ (List.mem_append_left _ (List.mem_append_left _ (List.mem_append_left _ (List.mem_append_left _ (List.mem_append_left _ (List.mem_append_left _ (List.mem_append_left _ (List.mem_append_right _ (List.mem_append_right _ (List.mem_append_right _ (List.mem_append_right _ (List.mem_append_right _ (List.mem_append_right _ (List.mem_append_right _ (List.mem_append_right _ (List.mem_append_right _ (List.mem_append_right _ (List.mem_append_right _ (List.mem_append_right _ (List.mem_append_right _ (List.mem_append_right _ (List.mem_append_right _ (List.mem_append_left _ h))))))))))))))))))))))))
theorem in_r17 : ∀ w ∈ wsL_law0_r17, w ∈ wsL_law := fun _ h => List.mem_append_left _ (List.mem_append_left _ (List.mem_append_left _ (List.mem_append_left _ (List.mem_append_left _ (List.mem_append_left _ (List.mem_append_left _ (List.mem_append_left _ (List.mem_append_left _ (List.mem_append_right _ (List.mem_append_right _ (List.mem_append_right _ (List.mem_append_right _ (List.mem_append_right _ (List.mem_append_right _ (List.mem_append_right _ (List.mem_append_right _ (List.mem_append_right _ (List.mem_append_right _ (List.mem_append_right _ (List.mem_append_right _ (List.mem_append_right _ (List.mem_append_right _ (List.mem_append_right _ (List.mem_append_right _ (List.mem_append_left _ h)))))))))))))))))))))))))
theorem in_r18 : ∀ w ∈ wsL_law0_r18, w ∈ wsL_law := fun _ h => List.mem_append_left _ (List.mem_append_left _ (List.mem_append_left _ (List.mem_append_left _ (List.mem_append_left _ (List.mem_append_left _ (List.mem_append_left _ (List.mem_append_left _ (List.mem_append_left _ (List.mem_append_right _ (List.mem_append_right _ (List.mem_append_right _ (List.mem_append_right _ (List.mem_append_right _ (List.mem_append_right _ (List.mem_append_right _ (List.mem_append_right _ (List.mem_append_right _ (List.mem_append_right _ (List.mem_append_right _ (List.mem_append_right _ (List.mem_append_right _ (List.mem_append_right _ (List.mem_append_right _ (List.mem_append_right _ (List.mem_append_right _ (List.mem_append_left _ h))))))))))))))))))))))))))
theorem in_r19 : ∀ w ∈ wsL_law0_r19, w ∈ wsL_law := fun _ h => List.mem_append_left _ (List.mem_append_left _ (List.mem_append_left _ (List.mem_append_left _ (List.mem_append_left _ (List.mem_append_left _ (List.mem_append_left _ (List.mem_append_left _ (List.mem_append_left _ (List.mem_append_right _ (List.mem_append_right _ (List.mem_append_right _ (List.mem_append_right _ (List.mem_append_right _ (List.mem_append_right _ (List.mem_append_right _ (List.mem_append_right _ (List.mem_append_right _ (List.mem_append_right _ (List.mem_append_right _ (List.mem_append_right _ (List.mem_append_right _ (List.mem_append_right _ (List.mem_append_right _ (List.mem_append_right _ (List.mem_append_right _ (List.mem_append_right _ (List.mem_append_left _ h)))))))))))))))))))))))))))
theorem in_r20 : ∀ w ∈ wsL_law0_r20, w ∈ wsL_law := fun _ h => List.mem_append_left _ (List.mem_append_left _ (List.mem_append_left _ (List.mem_append_left _ (List.mem_append_left _ (List.mem_append_left _ (List.mem_append_left _ (List.mem_append_left _ (List.mem_append_left _ (List.mem_append_right _ (List.mem_append_right _ (List.mem_append_right _ (List.mem_append_right _ (List.mem_append_right _ (List.mem_append_right _ (List.mem_append_right _ (List.mem_append_right _ (List.mem_append_right _ (List.mem_append_right _ (List.mem_append_right _ (List.mem_append_right _ (List.mem_append_right _ (List.mem_append_right _ (List.mem_append_right _ (List.mem_append_right _ (List.mem_append_right _ (List.mem_append_right _ (List.mem_append_right _ (List.mem_append_left _ h))))))))))))))))))))))))))))
theorem in_r21 : ∀ w ∈ wsL_law0_r21, w ∈ wsL_law := fun _ h => List.mem_append_left _ (List.mem_append_left _ (List.mem_append_left _ (List.mem_append_left _ (List.mem_append_left _ (List.mem_append_left _ (List.mem_append_left _ (List.mem_append_left _ (List.mem_append_left _ (List.mem_append_right _ (List.mem_append_right _ (List.mem_append_right _ (List.mem_append_right _ (List.mem_append_right _ (List.mem_append_right _ (List.mem_append_right _ (List.mem_append_right _ (List.mem_append_right _ (List.mem_append_right _ (List.mem_append_right _ (List.mem_append_right _ (List.mem_append_right _ (List.mem_append_right _ (List.mem_append_right _ (List.mem_append_right _ (List.mem_append_right _ (List.mem_append_right _ (List.mem_append_right _ (List.mem_append_right _ (List.mem_append_left _ h)))))))))))))))))))))))))))))
theorem in_r22 : ∀ w ∈ wsL_law0_r22, w ∈ wsL_law := fun _ h => List.mem_append_left _ (List.mem_append_left _ (List.mem_append_left _ (List.mem_append_left _ (List.mem_append_left _ (List.mem_append_left _ (List.mem_append_left _ (List.mem_append_left _ (List.mem_append_left _ (List.mem_append_right _ (List.mem_append_right _ (List.mem_append_right _ (List.mem_append_right _ (List.mem_append_right _ (List.mem_append_right _ (List.mem_append_right _ (List.mem_append_right _ (List.mem_append_right _ (List.mem_append_right _ (List.mem_append_right _ (List.mem_append_right _ (List.mem_append_right _ (List.mem_append_right _ (List.mem_append_right _ (List.mem_append_right _ (List.mem_append_right _ (List.mem_append_right _ (List.mem_append_right _ (List.mem_append_right _ (List.mem_append_right _ (List.mem_append_left _ h))))))))))))))))))))))))))))))
theorem in_r23 : ∀ w ∈ wsL_law0_r23, w ∈ wsL_law := fun _ h => List.mem_append_left _ (List.mem_append_left _ (List.mem_append_left _ (List.mem_append_left _ (List.mem_append_left _ (List.mem_append_left _ (List.mem_append_left _ (List.mem_append_left _ (List.mem_append_left _ (List.mem_append_right _ (List.mem_append_right _ (List.mem_append_right _ (List.mem_append_right _ (List.mem_append_right _ (List.mem_append_right _ (List.mem_append_right _ (List.mem_append_right _ (List.mem_append_right _ (List.mem_append_right _ (List.mem_append_right _ (List.mem_append_right _ (List.mem_append_right _ (List.mem_append_right _ (List.mem_append_right _ (List.mem_append_right _ (List.mem_append_right _ (List.mem_append_right _ (List.mem_append_right _ (List.mem_append_right _ (List.mem_append_right _ (List.mem_append_right _ (List.mem_append_left _ h)))))))))))))))))))))))))))))))
theorem in_r24 : ∀ w ∈ wsL_law0_r24, w ∈ wsL_law := fun _ h => List.mem_append_left _ (List.mem_append_left _ (List.mem_append_left _ (List.mem_append_left _ (List.mem_append_left _ (List.mem_append_left _ (List.mem_append_left _ (List.mem_append_left _ (List.mem_append_left _ (List.mem_append_right _ (List.mem_append_right _ (List.mem_append_right _ (List.mem_append_right _ (List.mem_append_right _ (List.mem_append_right _ (List.mem_append_right _ (List.mem_append_right _ (List.mem_append_right _ (List.mem_append_right _ (List.mem_append_right _ (List.mem_append_right _ (List.mem_append_right _ (List.mem_append_right _ (List.mem_append_right _ (List.mem_append_right _ (List.mem_append_right _ (List.mem_append_right _ (List.mem_append_right _ (List.mem_append_right _ (List.mem_append_right _ (List.mem_append_right _ (List.mem_append_right _ (h))))))))))))))))))))))))))))))))
theorem wq_1_0 : Cond.classLink RL 8 RX3 ∈ wsL_law := in_r1 _ (List.mem_of_getElem? (i := 0) rfl)
theorem wq_1_1 : Cond.instantiable RX3 2 ∈ wsL_law := in_r1 _ (List.mem_of_getElem? (i := 1) rfl)
theorem wq_1_2 : Cond.initialized RX3 ∈ wsL_law := in_r1 _ (List.mem_of_getElem? (i := 2) rfl)
theorem wq_1_3 : Cond.classLink RL 61 RX4 ∈ wsL_law := in_r1 _ (List.mem_of_getElem? (i := 3) rfl)
theorem wq_1_4 : Cond.instantiable RX4 5 ∈ wsL_law := in_r1 _ (List.mem_of_getElem? (i := 4) rfl)
theorem wq_1_5 : Cond.initialized RX4 ∈ wsL_law := in_r1 _ (List.mem_of_getElem? (i := 5) rfl)
theorem wq_1_6 : Cond.arrayClass .long ∈ wsL_law := in_r1 _ (List.mem_of_getElem? (i := 6) rfl)
theorem wq_1_7 : Cond.methodLink RL 60 yX3_init ∈ wsL_law := in_r1 _ (List.mem_of_getElem? (i := 7) rfl)
theorem wq_1_8 : Cond.instanceMethod yX3_init ∈ wsL_law := in_r1 _ (List.mem_of_getElem? (i := 8) rfl)
theorem wq_1_9 : Cond.code yX3_init cX3_init 1 none ∈ wsL_law := in_r1 _ (List.mem_of_getElem? (i := 9) rfl)
theorem wq_1_10 : Cond.methodLink RX3 1 objectInit ∈ wsL_law := in_r1 _ (List.mem_of_getElem? (i := 10) rfl)
theorem wq_1_11 : Cond.instanceMethod objectInit ∈ wsL_law := in_r1 _ (List.mem_of_getElem? (i := 11) rfl)
theorem wq_1_12 : Cond.code objectInit ⟨#[0xb1]⟩ 1 none ∈ wsL_law := in_r1 _ (List.mem_of_getElem? (i := 12) rfl)
theorem wq_1_13 : Cond.classLink RX3 7 RX1 ∈ wsL_law := in_r1 _ (List.mem_of_getElem? (i := 13) rfl)
theorem wq_1_14 : Cond.instantiable RX1 13 ∈ wsL_law := in_r1 _ (List.mem_of_getElem? (i := 14) rfl)
theorem wq_1_15 : Cond.initialized RX1 ∈ wsL_law := in_r1 _ (List.mem_of_getElem? (i := 15) rfl)
theorem wq_1_16 : Cond.fieldLink RX3 10 "PinnedPantry" "store" "LPinnedPantry$Store;" ∈ wsL_law := in_r1 _ (List.mem_of_getElem? (i := 16) rfl)
theorem wq_1_17 : Cond.fieldLink RX3 16 "PinnedPantry" "rehearsal" "LPinnedPantry$Store;" ∈ wsL_law := in_r1 _ (List.mem_of_getElem? (i := 17) rfl)
theorem wq_1_18 : Cond.methodLink RX3 9 yX1_init ∈ wsL_law := in_r1 _ (List.mem_of_getElem? (i := 18) rfl)
theorem wq_1_19 : Cond.instanceMethod yX1_init ∈ wsL_law := in_r1 _ (List.mem_of_getElem? (i := 19) rfl)
theorem wq_1_20 : Cond.code yX1_init cX1_init 1 none ∈ wsL_law := in_r1 _ (List.mem_of_getElem? (i := 20) rfl)
theorem wq_1_21 : Cond.methodLink RX1 3 objectInit ∈ wsL_law := in_r1 _ (List.mem_of_getElem? (i := 21) rfl)
theorem wq_1_22 : Cond.classLink RX1 9 RX0 ∈ wsL_law := in_r1 _ (List.mem_of_getElem? (i := 22) rfl)
theorem wq_1_23 : Cond.instantiable RX0 2 ∈ wsL_law := in_r1 _ (List.mem_of_getElem? (i := 23) rfl)
theorem wq_2_0 : Cond.initialized RX0 ∈ wsL_law := in_r2 _ (List.mem_of_getElem? (i := 0) rfl)
theorem wq_2_1 : Cond.fieldLink RX1 12 "PinnedPantry$Store" "newRow" "LPinnedPantry$Row;" ∈ wsL_law := in_r2 _ (List.mem_of_getElem? (i := 1) rfl)
theorem wq_2_2 : Cond.fieldLink RX1 18 "PinnedPantry$Store" "triedRow" "LPinnedPantry$Row;" ∈ wsL_law := in_r2 _ (List.mem_of_getElem? (i := 2) rfl)
theorem wq_2_3 : Cond.fieldLink RX1 21 "PinnedPantry$Store" "newList" "LPinnedPantry$Row;" ∈ wsL_law := in_r2 _ (List.mem_of_getElem? (i := 3) rfl)
theorem wq_2_4 : Cond.fieldLink RX1 24 "PinnedPantry$Store" "triedList" "LPinnedPantry$Row;" ∈ wsL_law := in_r2 _ (List.mem_of_getElem? (i := 4) rfl)
theorem wq_2_5 : Cond.classLink RX1 27 RX2 ∈ wsL_law := in_r2 _ (List.mem_of_getElem? (i := 5) rfl)
theorem wq_2_6 : Cond.instantiable RX2 1 ∈ wsL_law := in_r2 _ (List.mem_of_getElem? (i := 6) rfl)
theorem wq_2_7 : Cond.initialized RX2 ∈ wsL_law := in_r2 _ (List.mem_of_getElem? (i := 7) rfl)
theorem wq_2_8 : Cond.fieldLink RX1 30 "PinnedPantry$Store" "touches" "LPinnedPantry$Table;" ∈ wsL_law := in_r2 _ (List.mem_of_getElem? (i := 8) rfl)
theorem wq_2_9 : Cond.fieldLink RX1 34 "PinnedPantry$Store" "pins" "LPinnedPantry$Table;" ∈ wsL_law := in_r2 _ (List.mem_of_getElem? (i := 9) rfl)
theorem wq_2_10 : Cond.fieldLink RX1 37 "PinnedPantry$Store" "fetches" "LPinnedPantry$Table;" ∈ wsL_law := in_r2 _ (List.mem_of_getElem? (i := 10) rfl)
theorem wq_2_11 : Cond.fieldLink RX1 40 "PinnedPantry$Store" "places" "I" ∈ wsL_law := in_r2 _ (List.mem_of_getElem? (i := 11) rfl)
theorem wq_2_12 : Cond.methodLink RX1 11 yX0_init ∈ wsL_law := in_r2 _ (List.mem_of_getElem? (i := 12) rfl)
theorem wq_2_13 : Cond.instanceMethod yX0_init ∈ wsL_law := in_r2 _ (List.mem_of_getElem? (i := 13) rfl)
theorem wq_2_14 : Cond.code yX0_init cX0_init 1 none ∈ wsL_law := in_r2 _ (List.mem_of_getElem? (i := 14) rfl)
theorem wq_2_15 : Cond.methodLink RX0 3 objectInit ∈ wsL_law := in_r2 _ (List.mem_of_getElem? (i := 15) rfl)
theorem wq_2_16 : Cond.arrayClass .int ∈ wsL_law := in_r2 _ (List.mem_of_getElem? (i := 16) rfl)
theorem wq_2_17 : Cond.fieldLink RX0 9 "PinnedPantry$Row" "kinds" "[I" ∈ wsL_law := in_r2 _ (List.mem_of_getElem? (i := 17) rfl)
theorem wq_2_18 : Cond.fieldLink RX0 15 "PinnedPantry$Row" "length" "I" ∈ wsL_law := in_r2 _ (List.mem_of_getElem? (i := 18) rfl)
theorem wq_2_19 : Cond.methodLink RX1 29 yX2_init ∈ wsL_law := in_r2 _ (List.mem_of_getElem? (i := 19) rfl)
theorem wq_2_20 : Cond.instanceMethod yX2_init ∈ wsL_law := in_r2 _ (List.mem_of_getElem? (i := 20) rfl)
theorem wq_2_21 : Cond.code yX2_init cX2_init 1 none ∈ wsL_law := in_r2 _ (List.mem_of_getElem? (i := 21) rfl)
theorem wq_2_22 : Cond.methodLink RX2 3 objectInit ∈ wsL_law := in_r2 _ (List.mem_of_getElem? (i := 22) rfl)
theorem wq_2_23 : Cond.fieldLink RX2 9 "PinnedPantry$Table" "numbers" "[I" ∈ wsL_law := in_r2 _ (List.mem_of_getElem? (i := 23) rfl)
theorem wq_3_0 : Cond.methodLink RL 63 yX4_init ∈ wsL_law := in_r3 _ (List.mem_of_getElem? (i := 0) rfl)
theorem wq_3_1 : Cond.instanceMethod yX4_init ∈ wsL_law := in_r3 _ (List.mem_of_getElem? (i := 1) rfl)
theorem wq_3_2 : Cond.code yX4_init cX4_init 2 none ∈ wsL_law := in_r3 _ (List.mem_of_getElem? (i := 2) rfl)
theorem wq_3_3 : Cond.methodLink RX4 1 objectInit ∈ wsL_law := in_r3 _ (List.mem_of_getElem? (i := 3) rfl)
theorem wq_3_4 : Cond.fieldLink RX4 9 "PinnedPantryModel" "jars" "[I" ∈ wsL_law := in_r3 _ (List.mem_of_getElem? (i := 4) rfl)
theorem wq_3_5 : Cond.fieldLink RX4 13 "PinnedPantryModel" "shelves" "[I" ∈ wsL_law := in_r3 _ (List.mem_of_getElem? (i := 5) rfl)
theorem wq_3_6 : Cond.fieldLink RX4 16 "PinnedPantryModel" "lists" "[I" ∈ wsL_law := in_r3 _ (List.mem_of_getElem? (i := 6) rfl)
theorem wq_3_7 : Cond.fieldLink RX4 19 "PinnedPantryModel" "numbers" "[I" ∈ wsL_law := in_r3 _ (List.mem_of_getElem? (i := 7) rfl)
theorem wq_3_8 : Cond.methodLink RL 64 yL_fetch ∈ wsL_law := in_r3 _ (List.mem_of_getElem? (i := 8) rfl)
theorem wq_3_9 : Cond.static yL_fetch ∈ wsL_law := in_r3 _ (List.mem_of_getElem? (i := 9) rfl)
theorem wq_3_10 : Cond.initialized RL ∈ wsL_law := in_r3 _ (List.mem_of_getElem? (i := 10) rfl)
theorem wq_3_11 : Cond.codeWith yL_fetch cL_fetch 4 (some .int) [(0, 9, 12, 13), (0, 9, 15, 15)] ∈ wsL_law := in_r3 _ (List.mem_of_getElem? (i := 11) rfl)
theorem wq_3_12 : Cond.classLink RL 13 "java/lang/IndexOutOfBoundsException" ∈ wsL_law := in_r3 _ (List.mem_of_getElem? (i := 12) rfl)
theorem wq_3_13 : Cond.classLink RL 15 "java/lang/IllegalStateException" ∈ wsL_law := in_r3 _ (List.mem_of_getElem? (i := 13) rfl)
theorem wq_3_14 : Cond.methodLink RL 7 yX3_fetch ∈ wsL_law := in_r3 _ (List.mem_of_getElem? (i := 14) rfl)
theorem wq_3_15 : Cond.instanceMethod yX3_fetch ∈ wsL_law := in_r3 _ (List.mem_of_getElem? (i := 15) rfl)
theorem wq_3_16 : Cond.selects RX3 yX3_fetch yX3_fetch ∈ wsL_law := in_r3 _ (List.mem_of_getElem? (i := 16) rfl)
theorem wq_3_17 : Cond.code yX3_fetch cX3_fetch 3 (some .int) ∈ wsL_law := in_r3 _ (List.mem_of_getElem? (i := 17) rfl)
theorem wq_3_18 : Cond.classLink RX3 27 "java/lang/IllegalStateException" ∈ wsL_law := in_r3 _ (List.mem_of_getElem? (i := 18) rfl)
theorem wq_3_19 : Cond.initialized "java/lang/IllegalStateException" ∈ wsL_law := in_r3 _ (List.mem_of_getElem? (i := 19) rfl)
theorem wq_3_20 : Cond.methodLink RX3 19 yX3_requireKind ∈ wsL_law := in_r3 _ (List.mem_of_getElem? (i := 20) rfl)
theorem wq_3_21 : Cond.static yX3_requireKind ∈ wsL_law := in_r3 _ (List.mem_of_getElem? (i := 21) rfl)
theorem wq_3_22 : Cond.code yX3_requireKind cX3_requireKind 1 none ∈ wsL_law := in_r3 _ (List.mem_of_getElem? (i := 22) rfl)
theorem wq_3_23 : Cond.classLink RX3 90 "java/lang/IndexOutOfBoundsException" ∈ wsL_law := in_r3 _ (List.mem_of_getElem? (i := 23) rfl)
theorem wq_4_0 : Cond.initialized "java/lang/IndexOutOfBoundsException" ∈ wsL_law := in_r4 _ (List.mem_of_getElem? (i := 0) rfl)
theorem wq_4_1 : Cond.methodLink RX3 23 yX1_bring ∈ wsL_law := in_r4 _ (List.mem_of_getElem? (i := 1) rfl)
theorem wq_4_2 : Cond.instanceMethod yX1_bring ∈ wsL_law := in_r4 _ (List.mem_of_getElem? (i := 2) rfl)
theorem wq_4_3 : Cond.selects RX1 yX1_bring yX1_bring ∈ wsL_law := in_r4 _ (List.mem_of_getElem? (i := 3) rfl)
theorem wq_4_4 : Cond.code yX1_bring cX1_bring 3 (some .int) ∈ wsL_law := in_r4 _ (List.mem_of_getElem? (i := 4) rfl)
theorem wq_4_5 : Cond.fieldLink RX1 54 "PinnedPantry$Store" "hits" "I" ∈ wsL_law := in_r4 _ (List.mem_of_getElem? (i := 5) rfl)
theorem wq_4_6 : Cond.fieldLink RX1 57 "PinnedPantry$Store" "misses" "I" ∈ wsL_law := in_r4 _ (List.mem_of_getElem? (i := 6) rfl)
theorem wq_4_7 : Cond.methodLink RX1 94 yX1_forecast ∈ wsL_law := in_r4 _ (List.mem_of_getElem? (i := 7) rfl)
theorem wq_4_8 : Cond.instanceMethod yX1_forecast ∈ wsL_law := in_r4 _ (List.mem_of_getElem? (i := 8) rfl)
theorem wq_4_9 : Cond.selects RX1 yX1_forecast yX1_forecast ∈ wsL_law := in_r4 _ (List.mem_of_getElem? (i := 9) rfl)
theorem wq_4_10 : Cond.code yX1_forecast cX1_forecast 2 (some .int) ∈ wsL_law := in_r4 _ (List.mem_of_getElem? (i := 10) rfl)
theorem wq_4_11 : Cond.methodLink RX1 84 yX1_hasJar ∈ wsL_law := in_r4 _ (List.mem_of_getElem? (i := 11) rfl)
theorem wq_4_12 : Cond.instanceMethod yX1_hasJar ∈ wsL_law := in_r4 _ (List.mem_of_getElem? (i := 12) rfl)
theorem wq_4_13 : Cond.selects RX1 yX1_hasJar yX1_hasJar ∈ wsL_law := in_r4 _ (List.mem_of_getElem? (i := 13) rfl)
theorem wq_4_14 : Cond.code yX1_hasJar cX1_hasJar 2 (some .boolean) ∈ wsL_law := in_r4 _ (List.mem_of_getElem? (i := 14) rfl)
theorem wq_4_15 : Cond.methodLink RX1 66 yX0_has ∈ wsL_law := in_r4 _ (List.mem_of_getElem? (i := 15) rfl)
theorem wq_4_16 : Cond.instanceMethod yX0_has ∈ wsL_law := in_r4 _ (List.mem_of_getElem? (i := 16) rfl)
theorem wq_4_17 : Cond.selects RX0 yX0_has yX0_has ∈ wsL_law := in_r4 _ (List.mem_of_getElem? (i := 17) rfl)
theorem wq_4_18 : Cond.code yX0_has cX0_has 2 (some .boolean) ∈ wsL_law := in_r4 _ (List.mem_of_getElem? (i := 18) rfl)
theorem wq_4_19 : Cond.methodLink RX0 19 yX0_placeOf ∈ wsL_law := in_r4 _ (List.mem_of_getElem? (i := 19) rfl)
theorem wq_4_20 : Cond.instanceMethod yX0_placeOf ∈ wsL_law := in_r4 _ (List.mem_of_getElem? (i := 20) rfl)
theorem wq_4_21 : Cond.selects RX0 yX0_placeOf yX0_placeOf ∈ wsL_law := in_r4 _ (List.mem_of_getElem? (i := 21) rfl)
theorem wq_4_22 : Cond.code yX0_placeOf cX0_placeOf 3 (some .int) ∈ wsL_law := in_r4 _ (List.mem_of_getElem? (i := 22) rfl)
theorem wq_4_23 : Cond.methodLink RX1 87 yX1_jars ∈ wsL_law := in_r4 _ (List.mem_of_getElem? (i := 23) rfl)
theorem wq_5_0 : Cond.instanceMethod yX1_jars ∈ wsL_law := in_r5 _ (List.mem_of_getElem? (i := 0) rfl)
theorem wq_5_1 : Cond.selects RX1 yX1_jars yX1_jars ∈ wsL_law := in_r5 _ (List.mem_of_getElem? (i := 1) rfl)
theorem wq_5_2 : Cond.code yX1_jars cX1_jars 1 (some .int) ∈ wsL_law := in_r5 _ (List.mem_of_getElem? (i := 2) rfl)
theorem wq_5_3 : Cond.methodLink RX1 91 yX1_pinnedJars ∈ wsL_law := in_r5 _ (List.mem_of_getElem? (i := 3) rfl)
theorem wq_5_4 : Cond.instanceMethod yX1_pinnedJars ∈ wsL_law := in_r5 _ (List.mem_of_getElem? (i := 4) rfl)
theorem wq_5_5 : Cond.selects RX1 yX1_pinnedJars yX1_pinnedJars ∈ wsL_law := in_r5 _ (List.mem_of_getElem? (i := 5) rfl)
theorem wq_5_6 : Cond.code yX1_pinnedJars cX1_pinnedJars 1 (some .int) ∈ wsL_law := in_r5 _ (List.mem_of_getElem? (i := 6) rfl)
theorem wq_5_7 : Cond.methodLink RX1 73 yX1_pinnedOn ∈ wsL_law := in_r5 _ (List.mem_of_getElem? (i := 7) rfl)
theorem wq_5_8 : Cond.instanceMethod yX1_pinnedOn ∈ wsL_law := in_r5 _ (List.mem_of_getElem? (i := 8) rfl)
theorem wq_5_9 : Cond.selects RX1 yX1_pinnedOn yX1_pinnedOn ∈ wsL_law := in_r5 _ (List.mem_of_getElem? (i := 9) rfl)
theorem wq_5_10 : Cond.code yX1_pinnedOn cX1_pinnedOn 4 (some .int) ∈ wsL_law := in_r5 _ (List.mem_of_getElem? (i := 10) rfl)
theorem wq_5_11 : Cond.methodLink RX1 77 yX0_at ∈ wsL_law := in_r5 _ (List.mem_of_getElem? (i := 11) rfl)
theorem wq_5_12 : Cond.instanceMethod yX0_at ∈ wsL_law := in_r5 _ (List.mem_of_getElem? (i := 12) rfl)
theorem wq_5_13 : Cond.selects RX0 yX0_at yX0_at ∈ wsL_law := in_r5 _ (List.mem_of_getElem? (i := 13) rfl)
theorem wq_5_14 : Cond.code yX0_at cX0_at 2 (some .int) ∈ wsL_law := in_r5 _ (List.mem_of_getElem? (i := 14) rfl)
theorem wq_5_15 : Cond.methodLink RX1 81 yX2_of ∈ wsL_law := in_r5 _ (List.mem_of_getElem? (i := 15) rfl)
theorem wq_5_16 : Cond.instanceMethod yX2_of ∈ wsL_law := in_r5 _ (List.mem_of_getElem? (i := 16) rfl)
theorem wq_5_17 : Cond.selects RX2 yX2_of yX2_of ∈ wsL_law := in_r5 _ (List.mem_of_getElem? (i := 17) rfl)
theorem wq_5_18 : Cond.code yX2_of cX2_of 2 (some .int) ∈ wsL_law := in_r5 _ (List.mem_of_getElem? (i := 18) rfl)
theorem wq_5_19 : Cond.methodLink RX1 97 yX2_put ∈ wsL_law := in_r5 _ (List.mem_of_getElem? (i := 19) rfl)
theorem wq_5_20 : Cond.instanceMethod yX2_put ∈ wsL_law := in_r5 _ (List.mem_of_getElem? (i := 20) rfl)
theorem wq_5_21 : Cond.selects RX2 yX2_put yX2_put ∈ wsL_law := in_r5 _ (List.mem_of_getElem? (i := 21) rfl)
theorem wq_5_22 : Cond.code yX2_put cX2_put 3 none ∈ wsL_law := in_r5 _ (List.mem_of_getElem? (i := 22) rfl)
theorem wq_5_23 : Cond.methodLink RX1 101 yX1_recall ∈ wsL_law := in_r5 _ (List.mem_of_getElem? (i := 23) rfl)
theorem wq_6_0 : Cond.instanceMethod yX1_recall ∈ wsL_law := in_r6 _ (List.mem_of_getElem? (i := 0) rfl)
theorem wq_6_1 : Cond.selects RX1 yX1_recall yX1_recall ∈ wsL_law := in_r6 _ (List.mem_of_getElem? (i := 1) rfl)
theorem wq_6_2 : Cond.code yX1_recall cX1_recall 3 none ∈ wsL_law := in_r6 _ (List.mem_of_getElem? (i := 2) rfl)
theorem wq_6_3 : Cond.fieldLink RX1 51 "PinnedPantry$Store" "goal" "I" ∈ wsL_law := in_r6 _ (List.mem_of_getElem? (i := 3) rfl)
theorem wq_6_4 : Cond.methodLink RX1 118 Lib.Math.min.name ∈ wsL_law := in_r6 _ (List.mem_of_getElem? (i := 4) rfl)
theorem wq_6_5 : Cond.static Lib.Math.min.name ∈ wsL_law := in_r6 _ (List.mem_of_getElem? (i := 5) rfl)
theorem wq_6_6 : Cond.initialized "java/lang/Math" ∈ wsL_law := in_r6 _ (List.mem_of_getElem? (i := 6) rfl)
theorem wq_6_7 : Cond.code Lib.Math.min.name Lib.Math.min.code 2 (some .int) ∈ wsL_law := in_r6 _ (List.mem_of_getElem? (i := 7) rfl)
theorem wq_6_8 : Cond.fieldLink RX1 60 "PinnedPantry$Store" "rememberedMisses" "I" ∈ wsL_law := in_r6 _ (List.mem_of_getElem? (i := 8) rfl)
theorem wq_6_9 : Cond.methodLink RX1 131 Lib.Math.max.name ∈ wsL_law := in_r6 _ (List.mem_of_getElem? (i := 9) rfl)
theorem wq_6_10 : Cond.static Lib.Math.max.name ∈ wsL_law := in_r6 _ (List.mem_of_getElem? (i := 10) rfl)
theorem wq_6_11 : Cond.code Lib.Math.max.name Lib.Math.max.code 2 (some .int) ∈ wsL_law := in_r6 _ (List.mem_of_getElem? (i := 11) rfl)
theorem wq_6_12 : Cond.methodLink RX1 114 yX1_turn ∈ wsL_law := in_r6 _ (List.mem_of_getElem? (i := 12) rfl)
theorem wq_6_13 : Cond.static yX1_turn ∈ wsL_law := in_r6 _ (List.mem_of_getElem? (i := 13) rfl)
theorem wq_6_14 : Cond.code yX1_turn cX1_turn 3 (some .int) ∈ wsL_law := in_r6 _ (List.mem_of_getElem? (i := 14) rfl)
theorem wq_6_15 : Cond.methodLink RX1 124 yX0_placeOf ∈ wsL_law := in_r6 _ (List.mem_of_getElem? (i := 15) rfl)
theorem wq_6_16 : Cond.methodLink RX1 127 yX0_takeOut ∈ wsL_law := in_r6 _ (List.mem_of_getElem? (i := 16) rfl)
theorem wq_6_17 : Cond.instanceMethod yX0_takeOut ∈ wsL_law := in_r6 _ (List.mem_of_getElem? (i := 17) rfl)
theorem wq_6_18 : Cond.selects RX0 yX0_takeOut yX0_takeOut ∈ wsL_law := in_r6 _ (List.mem_of_getElem? (i := 18) rfl)
theorem wq_6_19 : Cond.code yX0_takeOut cX0_takeOut 3 none ∈ wsL_law := in_r6 _ (List.mem_of_getElem? (i := 19) rfl)
theorem wq_6_20 : Cond.methodLink RX1 104 yX1_sweep ∈ wsL_law := in_r6 _ (List.mem_of_getElem? (i := 20) rfl)
theorem wq_6_21 : Cond.instanceMethod yX1_sweep ∈ wsL_law := in_r6 _ (List.mem_of_getElem? (i := 21) rfl)
theorem wq_6_22 : Cond.selects RX1 yX1_sweep yX1_sweep ∈ wsL_law := in_r6 _ (List.mem_of_getElem? (i := 22) rfl)
theorem wq_6_23 : Cond.code yX1_sweep cX1_sweep 5 (some .int) ∈ wsL_law := in_r6 _ (List.mem_of_getElem? (i := 23) rfl)
theorem wq_7_0 : Cond.constant RX1 137 (1000000) ∈ wsL_law := in_r7 _ (List.mem_of_getElem? (i := 0) rfl)
theorem wq_7_1 : Cond.fieldLink RX1 63 "PinnedPantry$Store" "looks" "I" ∈ wsL_law := in_r7 _ (List.mem_of_getElem? (i := 1) rfl)
theorem wq_7_2 : Cond.methodLink RX1 138 yX1_givingShelf ∈ wsL_law := in_r7 _ (List.mem_of_getElem? (i := 2) rfl)
theorem wq_7_3 : Cond.instanceMethod yX1_givingShelf ∈ wsL_law := in_r7 _ (List.mem_of_getElem? (i := 3) rfl)
theorem wq_7_4 : Cond.selects RX1 yX1_givingShelf yX1_givingShelf ∈ wsL_law := in_r7 _ (List.mem_of_getElem? (i := 4) rfl)
theorem wq_7_5 : Cond.code yX1_givingShelf cX1_givingShelf 4 (some .int) ∈ wsL_law := in_r7 _ (List.mem_of_getElem? (i := 5) rfl)
theorem wq_7_6 : Cond.methodLink RX1 141 yX1_rowOf ∈ wsL_law := in_r7 _ (List.mem_of_getElem? (i := 6) rfl)
theorem wq_7_7 : Cond.instanceMethod yX1_rowOf ∈ wsL_law := in_r7 _ (List.mem_of_getElem? (i := 7) rfl)
theorem wq_7_8 : Cond.selects RX1 yX1_rowOf yX1_rowOf ∈ wsL_law := in_r7 _ (List.mem_of_getElem? (i := 8) rfl)
theorem wq_7_9 : Cond.code yX1_rowOf cX1_rowOf 2 (some (.object "PinnedPantry$Row")) ∈ wsL_law := in_r7 _ (List.mem_of_getElem? (i := 9) rfl)
theorem wq_7_10 : Cond.methodLink RX1 134 yX0_append ∈ wsL_law := in_r7 _ (List.mem_of_getElem? (i := 10) rfl)
theorem wq_7_11 : Cond.instanceMethod yX0_append ∈ wsL_law := in_r7 _ (List.mem_of_getElem? (i := 11) rfl)
theorem wq_7_12 : Cond.selects RX0 yX0_append yX0_append ∈ wsL_law := in_r7 _ (List.mem_of_getElem? (i := 12) rfl)
theorem wq_7_13 : Cond.code yX0_append cX0_append 2 none ∈ wsL_law := in_r7 _ (List.mem_of_getElem? (i := 13) rfl)
theorem wq_7_14 : Cond.methodLink RX1 145 yX1_listOf ∈ wsL_law := in_r7 _ (List.mem_of_getElem? (i := 14) rfl)
theorem wq_7_15 : Cond.instanceMethod yX1_listOf ∈ wsL_law := in_r7 _ (List.mem_of_getElem? (i := 15) rfl)
theorem wq_7_16 : Cond.selects RX1 yX1_listOf yX1_listOf ∈ wsL_law := in_r7 _ (List.mem_of_getElem? (i := 16) rfl)
theorem wq_7_17 : Cond.code yX1_listOf cX1_listOf 2 (some (.object "PinnedPantry$Row")) ∈ wsL_law := in_r7 _ (List.mem_of_getElem? (i := 17) rfl)
theorem wq_7_18 : Cond.methodLink RX1 148 yX0_forgetEldest ∈ wsL_law := in_r7 _ (List.mem_of_getElem? (i := 18) rfl)
theorem wq_7_19 : Cond.instanceMethod yX0_forgetEldest ∈ wsL_law := in_r7 _ (List.mem_of_getElem? (i := 19) rfl)
theorem wq_7_20 : Cond.selects RX0 yX0_forgetEldest yX0_forgetEldest ∈ wsL_law := in_r7 _ (List.mem_of_getElem? (i := 20) rfl)
theorem wq_7_21 : Cond.code yX0_forgetEldest cX0_forgetEldest 3 none ∈ wsL_law := in_r7 _ (List.mem_of_getElem? (i := 21) rfl)
theorem wq_7_22 : Cond.methodLink RX0 23 yX0_takeOut ∈ wsL_law := in_r7 _ (List.mem_of_getElem? (i := 22) rfl)
theorem wq_7_23 : Cond.methodLink RX1 107 yX1_placeNewJar ∈ wsL_law := in_r7 _ (List.mem_of_getElem? (i := 23) rfl)
theorem wq_8_0 : Cond.instanceMethod yX1_placeNewJar ∈ wsL_law := in_r8 _ (List.mem_of_getElem? (i := 0) rfl)
theorem wq_8_1 : Cond.selects RX1 yX1_placeNewJar yX1_placeNewJar ∈ wsL_law := in_r8 _ (List.mem_of_getElem? (i := 1) rfl)
theorem wq_8_2 : Cond.code yX1_placeNewJar cX1_placeNewJar 3 none ∈ wsL_law := in_r8 _ (List.mem_of_getElem? (i := 2) rfl)
theorem wq_8_3 : Cond.methodLink RL 69 yX4_fetch ∈ wsL_law := in_r8 _ (List.mem_of_getElem? (i := 3) rfl)
theorem wq_8_4 : Cond.instanceMethod yX4_fetch ∈ wsL_law := in_r8 _ (List.mem_of_getElem? (i := 4) rfl)
theorem wq_8_5 : Cond.selects RX4 yX4_fetch yX4_fetch ∈ wsL_law := in_r8 _ (List.mem_of_getElem? (i := 5) rfl)
theorem wq_8_6 : Cond.code yX4_fetch cX4_fetch 2 (some .int) ∈ wsL_law := in_r8 _ (List.mem_of_getElem? (i := 6) rfl)
theorem wq_8_7 : Cond.fieldLink RX4 22 "PinnedPantryModel" "thrown" "I" ∈ wsL_law := in_r8 _ (List.mem_of_getElem? (i := 7) rfl)
theorem wq_8_8 : Cond.methodLink RX4 101 yX4_isKind ∈ wsL_law := in_r8 _ (List.mem_of_getElem? (i := 8) rfl)
theorem wq_8_9 : Cond.static yX4_isKind ∈ wsL_law := in_r8 _ (List.mem_of_getElem? (i := 9) rfl)
theorem wq_8_10 : Cond.code yX4_isKind cX4_isKind 1 (some .boolean) ∈ wsL_law := in_r8 _ (List.mem_of_getElem? (i := 10) rfl)
theorem wq_8_11 : Cond.methodLink RX4 26 yX4_isIn ∈ wsL_law := in_r8 _ (List.mem_of_getElem? (i := 11) rfl)
theorem wq_8_12 : Cond.static yX4_isIn ∈ wsL_law := in_r8 _ (List.mem_of_getElem? (i := 12) rfl)
theorem wq_8_13 : Cond.code yX4_isIn cX4_isIn 3 (some .boolean) ∈ wsL_law := in_r8 _ (List.mem_of_getElem? (i := 13) rfl)
theorem wq_8_14 : Cond.methodLink RX4 104 yX4_fail ∈ wsL_law := in_r8 _ (List.mem_of_getElem? (i := 14) rfl)
theorem wq_8_15 : Cond.instanceMethod yX4_fail ∈ wsL_law := in_r8 _ (List.mem_of_getElem? (i := 15) rfl)
theorem wq_8_16 : Cond.selects RX4 yX4_fail yX4_fail ∈ wsL_law := in_r8 _ (List.mem_of_getElem? (i := 16) rfl)
theorem wq_8_17 : Cond.code yX4_fail cX4_fail 2 (some .int) ∈ wsL_law := in_r8 _ (List.mem_of_getElem? (i := 17) rfl)
theorem wq_8_18 : Cond.methodLink RX4 107 yX4_canFetch ∈ wsL_law := in_r8 _ (List.mem_of_getElem? (i := 18) rfl)
theorem wq_8_19 : Cond.instanceMethod yX4_canFetch ∈ wsL_law := in_r8 _ (List.mem_of_getElem? (i := 19) rfl)
theorem wq_8_20 : Cond.selects RX4 yX4_canFetch yX4_canFetch ∈ wsL_law := in_r8 _ (List.mem_of_getElem? (i := 20) rfl)
theorem wq_8_21 : Cond.code yX4_canFetch cX4_canFetch 2 (some .boolean) ∈ wsL_law := in_r8 _ (List.mem_of_getElem? (i := 21) rfl)
theorem wq_8_22 : Cond.methodLink RX4 61 yX4_isThere ∈ wsL_law := in_r8 _ (List.mem_of_getElem? (i := 22) rfl)
theorem wq_8_23 : Cond.instanceMethod yX4_isThere ∈ wsL_law := in_r8 _ (List.mem_of_getElem? (i := 23) rfl)
theorem wq_9_0 : Cond.selects RX4 yX4_isThere yX4_isThere ∈ wsL_law := in_r9 _ (List.mem_of_getElem? (i := 0) rfl)
theorem wq_9_1 : Cond.code yX4_isThere cX4_isThere 2 (some .boolean) ∈ wsL_law := in_r9 _ (List.mem_of_getElem? (i := 1) rfl)
theorem wq_9_2 : Cond.methodLink RX4 30 yX4_ja ∈ wsL_law := in_r9 _ (List.mem_of_getElem? (i := 2) rfl)
theorem wq_9_3 : Cond.instanceMethod yX4_ja ∈ wsL_law := in_r9 _ (List.mem_of_getElem? (i := 3) rfl)
theorem wq_9_4 : Cond.selects RX4 yX4_ja yX4_ja ∈ wsL_law := in_r9 _ (List.mem_of_getElem? (i := 4) rfl)
theorem wq_9_5 : Cond.code yX4_ja cX4_ja 3 (some .int) ∈ wsL_law := in_r9 _ (List.mem_of_getElem? (i := 5) rfl)
theorem wq_9_6 : Cond.methodLink RX4 82 yX4_all ∈ wsL_law := in_r9 _ (List.mem_of_getElem? (i := 6) rfl)
theorem wq_9_7 : Cond.instanceMethod yX4_all ∈ wsL_law := in_r9 _ (List.mem_of_getElem? (i := 7) rfl)
theorem wq_9_8 : Cond.selects RX4 yX4_all yX4_all ∈ wsL_law := in_r9 _ (List.mem_of_getElem? (i := 8) rfl)
theorem wq_9_9 : Cond.code yX4_all cX4_all 1 (some .int) ∈ wsL_law := in_r9 _ (List.mem_of_getElem? (i := 9) rfl)
theorem wq_9_10 : Cond.methodLink RX4 34 yX4_many ∈ wsL_law := in_r9 _ (List.mem_of_getElem? (i := 10) rfl)
theorem wq_9_11 : Cond.instanceMethod yX4_many ∈ wsL_law := in_r9 _ (List.mem_of_getElem? (i := 11) rfl)
theorem wq_9_12 : Cond.selects RX4 yX4_many yX4_many ∈ wsL_law := in_r9 _ (List.mem_of_getElem? (i := 12) rfl)
theorem wq_9_13 : Cond.code yX4_many cX4_many 2 (some .int) ∈ wsL_law := in_r9 _ (List.mem_of_getElem? (i := 13) rfl)
theorem wq_9_14 : Cond.methodLink RX4 86 yX4_pinned ∈ wsL_law := in_r9 _ (List.mem_of_getElem? (i := 14) rfl)
theorem wq_9_15 : Cond.instanceMethod yX4_pinned ∈ wsL_law := in_r9 _ (List.mem_of_getElem? (i := 15) rfl)
theorem wq_9_16 : Cond.selects RX4 yX4_pinned yX4_pinned ∈ wsL_law := in_r9 _ (List.mem_of_getElem? (i := 16) rfl)
theorem wq_9_17 : Cond.code yX4_pinned cX4_pinned 3 (some .int) ∈ wsL_law := in_r9 _ (List.mem_of_getElem? (i := 17) rfl)
theorem wq_9_18 : Cond.methodLink RX4 110 yX4_fetched ∈ wsL_law := in_r9 _ (List.mem_of_getElem? (i := 18) rfl)
theorem wq_9_19 : Cond.instanceMethod yX4_fetched ∈ wsL_law := in_r9 _ (List.mem_of_getElem? (i := 19) rfl)
theorem wq_9_20 : Cond.selects RX4 yX4_fetched yX4_fetched ∈ wsL_law := in_r9 _ (List.mem_of_getElem? (i := 20) rfl)
theorem wq_9_21 : Cond.code yX4_fetched cX4_fetched 4 (some .int) ∈ wsL_law := in_r9 _ (List.mem_of_getElem? (i := 21) rfl)
theorem wq_9_22 : Cond.methodLink RX4 68 Lib.Math.max.name ∈ wsL_law := in_r9 _ (List.mem_of_getElem? (i := 22) rfl)
theorem wq_9_23 : Cond.methodLink RX4 95 Lib.Math.min.name ∈ wsL_law := in_r9 _ (List.mem_of_getElem? (i := 23) rfl)
theorem wq_10_0 : Cond.methodLink RX4 38 arraycopyName ∈ wsL_law := in_r10 _ (List.mem_of_getElem? (i := 0) rfl)
theorem wq_10_1 : Cond.native arraycopyName ∈ wsL_law := in_r10 _ (List.mem_of_getElem? (i := 1) rfl)
theorem wq_10_2 : Cond.static arraycopyName ∈ wsL_law := in_r10 _ (List.mem_of_getElem? (i := 2) rfl)
theorem wq_10_3 : Cond.initialized "java/lang/System" ∈ wsL_law := in_r10 _ (List.mem_of_getElem? (i := 3) rfl)
theorem wq_10_4 : Cond.methodLink RX4 92 yX4_listOf ∈ wsL_law := in_r10 _ (List.mem_of_getElem? (i := 4) rfl)
theorem wq_10_5 : Cond.instanceMethod yX4_listOf ∈ wsL_law := in_r10 _ (List.mem_of_getElem? (i := 5) rfl)
theorem wq_10_6 : Cond.selects RX4 yX4_listOf yX4_listOf ∈ wsL_law := in_r10 _ (List.mem_of_getElem? (i := 6) rfl)
theorem wq_10_7 : Cond.code yX4_listOf cX4_listOf 2 (some .int) ∈ wsL_law := in_r10 _ (List.mem_of_getElem? (i := 7) rfl)
theorem wq_10_8 : Cond.methodLink RX4 89 yX4_listPlace ∈ wsL_law := in_r10 _ (List.mem_of_getElem? (i := 8) rfl)
theorem wq_10_9 : Cond.instanceMethod yX4_listPlace ∈ wsL_law := in_r10 _ (List.mem_of_getElem? (i := 9) rfl)
theorem wq_10_10 : Cond.selects RX4 yX4_listPlace yX4_listPlace ∈ wsL_law := in_r10 _ (List.mem_of_getElem? (i := 10) rfl)
theorem wq_10_11 : Cond.code yX4_listPlace cX4_listPlace 4 (some .int) ∈ wsL_law := in_r10 _ (List.mem_of_getElem? (i := 11) rfl)
theorem wq_10_12 : Cond.methodLink RX4 44 yX4_listed ∈ wsL_law := in_r10 _ (List.mem_of_getElem? (i := 12) rfl)
theorem wq_10_13 : Cond.instanceMethod yX4_listed ∈ wsL_law := in_r10 _ (List.mem_of_getElem? (i := 13) rfl)
theorem wq_10_14 : Cond.selects RX4 yX4_listed yX4_listed ∈ wsL_law := in_r10 _ (List.mem_of_getElem? (i := 14) rfl)
theorem wq_10_15 : Cond.code yX4_listed cX4_listed 2 (some .int) ∈ wsL_law := in_r10 _ (List.mem_of_getElem? (i := 15) rfl)
theorem wq_10_16 : Cond.methodLink RX4 55 yX4_listedAt ∈ wsL_law := in_r10 _ (List.mem_of_getElem? (i := 16) rfl)
theorem wq_10_17 : Cond.instanceMethod yX4_listedAt ∈ wsL_law := in_r10 _ (List.mem_of_getElem? (i := 17) rfl)
theorem wq_10_18 : Cond.selects RX4 yX4_listedAt yX4_listedAt ∈ wsL_law := in_r10 _ (List.mem_of_getElem? (i := 18) rfl)
theorem wq_10_19 : Cond.code yX4_listedAt cX4_listedAt 3 (some .int) ∈ wsL_law := in_r10 _ (List.mem_of_getElem? (i := 19) rfl)
theorem wq_10_20 : Cond.methodLink RX4 47 yX4_takeOff ∈ wsL_law := in_r10 _ (List.mem_of_getElem? (i := 20) rfl)
theorem wq_10_21 : Cond.instanceMethod yX4_takeOff ∈ wsL_law := in_r10 _ (List.mem_of_getElem? (i := 21) rfl)
theorem wq_10_22 : Cond.selects RX4 yX4_takeOff yX4_takeOff ∈ wsL_law := in_r10 _ (List.mem_of_getElem? (i := 22) rfl)
theorem wq_10_23 : Cond.code yX4_takeOff cX4_takeOff 3 none ∈ wsL_law := in_r10 _ (List.mem_of_getElem? (i := 23) rfl)
theorem wq_11_0 : Cond.methodLink RX4 98 yX4_sweep ∈ wsL_law := in_r11 _ (List.mem_of_getElem? (i := 0) rfl)
theorem wq_11_1 : Cond.instanceMethod yX4_sweep ∈ wsL_law := in_r11 _ (List.mem_of_getElem? (i := 1) rfl)
theorem wq_11_2 : Cond.selects RX4 yX4_sweep yX4_sweep ∈ wsL_law := in_r11 _ (List.mem_of_getElem? (i := 2) rfl)
theorem wq_11_3 : Cond.code yX4_sweep cX4_sweep 4 (some .int) ∈ wsL_law := in_r11 _ (List.mem_of_getElem? (i := 3) rfl)
theorem wq_11_4 : Cond.methodLink RX4 65 yX4_canGive ∈ wsL_law := in_r11 _ (List.mem_of_getElem? (i := 4) rfl)
theorem wq_11_5 : Cond.instanceMethod yX4_canGive ∈ wsL_law := in_r11 _ (List.mem_of_getElem? (i := 5) rfl)
theorem wq_11_6 : Cond.selects RX4 yX4_canGive yX4_canGive ∈ wsL_law := in_r11 _ (List.mem_of_getElem? (i := 6) rfl)
theorem wq_11_7 : Cond.code yX4_canGive cX4_canGive 3 (some .boolean) ∈ wsL_law := in_r11 _ (List.mem_of_getElem? (i := 7) rfl)
theorem wq_11_8 : Cond.methodLink RX4 58 yX4_kindAt ∈ wsL_law := in_r11 _ (List.mem_of_getElem? (i := 8) rfl)
theorem wq_11_9 : Cond.instanceMethod yX4_kindAt ∈ wsL_law := in_r11 _ (List.mem_of_getElem? (i := 9) rfl)
theorem wq_11_10 : Cond.selects RX4 yX4_kindAt yX4_kindAt ∈ wsL_law := in_r11 _ (List.mem_of_getElem? (i := 10) rfl)
theorem wq_11_11 : Cond.code yX4_kindAt cX4_kindAt 3 (some .int) ∈ wsL_law := in_r11 _ (List.mem_of_getElem? (i := 11) rfl)
theorem wq_11_12 : Cond.methodLink RX4 73 yX4_takeOut ∈ wsL_law := in_r11 _ (List.mem_of_getElem? (i := 12) rfl)
theorem wq_11_13 : Cond.instanceMethod yX4_takeOut ∈ wsL_law := in_r11 _ (List.mem_of_getElem? (i := 13) rfl)
theorem wq_11_14 : Cond.selects RX4 yX4_takeOut yX4_takeOut ∈ wsL_law := in_r11 _ (List.mem_of_getElem? (i := 14) rfl)
theorem wq_11_15 : Cond.code yX4_takeOut cX4_takeOut 3 none ∈ wsL_law := in_r11 _ (List.mem_of_getElem? (i := 15) rfl)
theorem wq_11_16 : Cond.methodLink RX4 76 yX4_putLast ∈ wsL_law := in_r11 _ (List.mem_of_getElem? (i := 16) rfl)
theorem wq_11_17 : Cond.instanceMethod yX4_putLast ∈ wsL_law := in_r11 _ (List.mem_of_getElem? (i := 17) rfl)
theorem wq_11_18 : Cond.selects RX4 yX4_putLast yX4_putLast ∈ wsL_law := in_r11 _ (List.mem_of_getElem? (i := 18) rfl)
theorem wq_11_19 : Cond.code yX4_putLast cX4_putLast 3 none ∈ wsL_law := in_r11 _ (List.mem_of_getElem? (i := 19) rfl)
theorem wq_11_20 : Cond.methodLink RX4 79 yX4_remember ∈ wsL_law := in_r11 _ (List.mem_of_getElem? (i := 20) rfl)
theorem wq_11_21 : Cond.instanceMethod yX4_remember ∈ wsL_law := in_r11 _ (List.mem_of_getElem? (i := 21) rfl)
theorem wq_11_22 : Cond.selects RX4 yX4_remember yX4_remember ∈ wsL_law := in_r11 _ (List.mem_of_getElem? (i := 22) rfl)
theorem wq_11_23 : Cond.code yX4_remember cX4_remember 3 none ∈ wsL_law := in_r11 _ (List.mem_of_getElem? (i := 23) rfl)
theorem wq_12_0 : Cond.methodLink RX4 51 yX4_forget ∈ wsL_law := in_r12 _ (List.mem_of_getElem? (i := 0) rfl)
theorem wq_12_1 : Cond.instanceMethod yX4_forget ∈ wsL_law := in_r12 _ (List.mem_of_getElem? (i := 1) rfl)
theorem wq_12_2 : Cond.selects RX4 yX4_forget yX4_forget ∈ wsL_law := in_r12 _ (List.mem_of_getElem? (i := 2) rfl)
theorem wq_12_3 : Cond.code yX4_forget cX4_forget 2 none ∈ wsL_law := in_r12 _ (List.mem_of_getElem? (i := 3) rfl)
theorem wq_12_4 : Cond.methodLink RL 70 yX4_thrown ∈ wsL_law := in_r12 _ (List.mem_of_getElem? (i := 4) rfl)
theorem wq_12_5 : Cond.instanceMethod yX4_thrown ∈ wsL_law := in_r12 _ (List.mem_of_getElem? (i := 5) rfl)
theorem wq_12_6 : Cond.selects RX4 yX4_thrown yX4_thrown ∈ wsL_law := in_r12 _ (List.mem_of_getElem? (i := 6) rfl)
theorem wq_12_7 : Cond.code yX4_thrown cX4_thrown 1 (some .int) ∈ wsL_law := in_r12 _ (List.mem_of_getElem? (i := 7) rfl)
theorem wq_12_8 : Cond.methodLink RL 74 yL_fetchAll ∈ wsL_law := in_r12 _ (List.mem_of_getElem? (i := 8) rfl)
theorem wq_12_9 : Cond.static yL_fetchAll ∈ wsL_law := in_r12 _ (List.mem_of_getElem? (i := 9) rfl)
theorem wq_12_10 : Cond.codeWith yL_fetchAll cL_fetchAll 6 (some .int) [(0, 12, 15, 13), (0, 12, 19, 21)] ∈ wsL_law := in_r12 _ (List.mem_of_getElem? (i := 10) rfl)
theorem wq_12_11 : Cond.classLink RL 21 "java/lang/IllegalArgumentException" ∈ wsL_law := in_r12 _ (List.mem_of_getElem? (i := 11) rfl)
theorem wq_12_12 : Cond.methodLink RL 17 yX3_fetchAll ∈ wsL_law := in_r12 _ (List.mem_of_getElem? (i := 12) rfl)
theorem wq_12_13 : Cond.instanceMethod yX3_fetchAll ∈ wsL_law := in_r12 _ (List.mem_of_getElem? (i := 13) rfl)
theorem wq_12_14 : Cond.selects RX3 yX3_fetchAll yX3_fetchAll ∈ wsL_law := in_r12 _ (List.mem_of_getElem? (i := 14) rfl)
theorem wq_12_15 : Cond.code yX3_fetchAll cX3_fetchAll 4 (some .int) ∈ wsL_law := in_r12 _ (List.mem_of_getElem? (i := 15) rfl)
theorem wq_12_16 : Cond.methodLink RX3 34 yX3_requireSeries ∈ wsL_law := in_r12 _ (List.mem_of_getElem? (i := 16) rfl)
theorem wq_12_17 : Cond.static yX3_requireSeries ∈ wsL_law := in_r12 _ (List.mem_of_getElem? (i := 17) rfl)
theorem wq_12_18 : Cond.code yX3_requireSeries cX3_requireSeries 3 none ∈ wsL_law := in_r12 _ (List.mem_of_getElem? (i := 18) rfl)
theorem wq_12_19 : Cond.classLink RX3 67 "java/lang/IllegalArgumentException" ∈ wsL_law := in_r12 _ (List.mem_of_getElem? (i := 19) rfl)
theorem wq_12_20 : Cond.initialized "java/lang/IllegalArgumentException" ∈ wsL_law := in_r12 _ (List.mem_of_getElem? (i := 20) rfl)
theorem wq_12_21 : Cond.methodLink RX3 38 yX1_bringSeries ∈ wsL_law := in_r12 _ (List.mem_of_getElem? (i := 21) rfl)
theorem wq_12_22 : Cond.instanceMethod yX1_bringSeries ∈ wsL_law := in_r12 _ (List.mem_of_getElem? (i := 22) rfl)
theorem wq_12_23 : Cond.selects RX1 yX1_bringSeries yX1_bringSeries ∈ wsL_law := in_r12 _ (List.mem_of_getElem? (i := 23) rfl)
theorem wq_13_0 : Cond.code yX1_bringSeries cX1_bringSeries 6 (some .int) ∈ wsL_law := in_r13 _ (List.mem_of_getElem? (i := 0) rfl)
theorem wq_13_1 : Cond.methodLink RX1 111 yX1_bring ∈ wsL_law := in_r13 _ (List.mem_of_getElem? (i := 1) rfl)
theorem wq_13_2 : Cond.methodLink RL 77 yX4_fetchAll ∈ wsL_law := in_r13 _ (List.mem_of_getElem? (i := 2) rfl)
theorem wq_13_3 : Cond.instanceMethod yX4_fetchAll ∈ wsL_law := in_r13 _ (List.mem_of_getElem? (i := 3) rfl)
theorem wq_13_4 : Cond.selects RX4 yX4_fetchAll yX4_fetchAll ∈ wsL_law := in_r13 _ (List.mem_of_getElem? (i := 4) rfl)
theorem wq_13_5 : Cond.code yX4_fetchAll cX4_fetchAll 4 (some .int) ∈ wsL_law := in_r13 _ (List.mem_of_getElem? (i := 5) rfl)
theorem wq_13_6 : Cond.methodLink RX4 113 yX4_wrong ∈ wsL_law := in_r13 _ (List.mem_of_getElem? (i := 6) rfl)
theorem wq_13_7 : Cond.instanceMethod yX4_wrong ∈ wsL_law := in_r13 _ (List.mem_of_getElem? (i := 7) rfl)
theorem wq_13_8 : Cond.selects RX4 yX4_wrong yX4_wrong ∈ wsL_law := in_r13 _ (List.mem_of_getElem? (i := 8) rfl)
theorem wq_13_9 : Cond.code yX4_wrong cX4_wrong 4 (some .int) ∈ wsL_law := in_r13 _ (List.mem_of_getElem? (i := 9) rfl)
theorem wq_13_10 : Cond.methodLink RX4 117 yX4_hits ∈ wsL_law := in_r13 _ (List.mem_of_getElem? (i := 10) rfl)
theorem wq_13_11 : Cond.instanceMethod yX4_hits ∈ wsL_law := in_r13 _ (List.mem_of_getElem? (i := 11) rfl)
theorem wq_13_12 : Cond.selects RX4 yX4_hits yX4_hits ∈ wsL_law := in_r13 _ (List.mem_of_getElem? (i := 12) rfl)
theorem wq_13_13 : Cond.code yX4_hits cX4_hits 6 (some .int) ∈ wsL_law := in_r13 _ (List.mem_of_getElem? (i := 13) rfl)
theorem wq_13_14 : Cond.methodLink RL 78 yL_pin ∈ wsL_law := in_r13 _ (List.mem_of_getElem? (i := 14) rfl)
theorem wq_13_15 : Cond.static yL_pin ∈ wsL_law := in_r13 _ (List.mem_of_getElem? (i := 15) rfl)
theorem wq_13_16 : Cond.codeWith yL_pin cL_pin 4 (some .int) [(0, 9, 12, 13), (0, 9, 15, 15)] ∈ wsL_law := in_r13 _ (List.mem_of_getElem? (i := 16) rfl)
theorem wq_13_17 : Cond.methodLink RL 23 yX3_pin ∈ wsL_law := in_r13 _ (List.mem_of_getElem? (i := 17) rfl)
theorem wq_13_18 : Cond.instanceMethod yX3_pin ∈ wsL_law := in_r13 _ (List.mem_of_getElem? (i := 18) rfl)
theorem wq_13_19 : Cond.selects RX3 yX3_pin yX3_pin ∈ wsL_law := in_r13 _ (List.mem_of_getElem? (i := 19) rfl)
theorem wq_13_20 : Cond.code yX3_pin cX3_pin 2 (some .int) ∈ wsL_law := in_r13 _ (List.mem_of_getElem? (i := 20) rfl)
theorem wq_13_21 : Cond.methodLink RX3 42 yX3_requireJar ∈ wsL_law := in_r13 _ (List.mem_of_getElem? (i := 21) rfl)
theorem wq_13_22 : Cond.instanceMethod yX3_requireJar ∈ wsL_law := in_r13 _ (List.mem_of_getElem? (i := 22) rfl)
theorem wq_13_23 : Cond.selects RX3 yX3_requireJar yX3_requireJar ∈ wsL_law := in_r13 _ (List.mem_of_getElem? (i := 23) rfl)
theorem wq_14_0 : Cond.code yX3_requireJar cX3_requireJar 2 none ∈ wsL_law := in_r14 _ (List.mem_of_getElem? (i := 0) rfl)
theorem wq_14_1 : Cond.methodLink RX3 165 yX1_hasJar ∈ wsL_law := in_r14 _ (List.mem_of_getElem? (i := 1) rfl)
theorem wq_14_2 : Cond.methodLink RX3 49 yX2_of ∈ wsL_law := in_r14 _ (List.mem_of_getElem? (i := 2) rfl)
theorem wq_14_3 : Cond.methodLink RX3 56 yX1_changePins ∈ wsL_law := in_r14 _ (List.mem_of_getElem? (i := 3) rfl)
theorem wq_14_4 : Cond.instanceMethod yX1_changePins ∈ wsL_law := in_r14 _ (List.mem_of_getElem? (i := 4) rfl)
theorem wq_14_5 : Cond.selects RX1 yX1_changePins yX1_changePins ∈ wsL_law := in_r14 _ (List.mem_of_getElem? (i := 5) rfl)
theorem wq_14_6 : Cond.code yX1_changePins cX1_changePins 3 (some .int) ∈ wsL_law := in_r14 _ (List.mem_of_getElem? (i := 6) rfl)
theorem wq_14_7 : Cond.methodLink RL 80 yX4_pin ∈ wsL_law := in_r14 _ (List.mem_of_getElem? (i := 7) rfl)
theorem wq_14_8 : Cond.instanceMethod yX4_pin ∈ wsL_law := in_r14 _ (List.mem_of_getElem? (i := 8) rfl)
theorem wq_14_9 : Cond.selects RX4 yX4_pin yX4_pin ∈ wsL_law := in_r14 _ (List.mem_of_getElem? (i := 9) rfl)
theorem wq_14_10 : Cond.code yX4_pin cX4_pin 2 (some .int) ∈ wsL_law := in_r14 _ (List.mem_of_getElem? (i := 10) rfl)
theorem wq_14_11 : Cond.methodLink RL 81 yL_unpin ∈ wsL_law := in_r14 _ (List.mem_of_getElem? (i := 11) rfl)
theorem wq_14_12 : Cond.static yL_unpin ∈ wsL_law := in_r14 _ (List.mem_of_getElem? (i := 12) rfl)
theorem wq_14_13 : Cond.codeWith yL_unpin cL_unpin 4 (some .int) [(0, 9, 12, 13), (0, 9, 15, 15)] ∈ wsL_law := in_r14 _ (List.mem_of_getElem? (i := 13) rfl)
theorem wq_14_14 : Cond.methodLink RL 26 yX3_unpin ∈ wsL_law := in_r14 _ (List.mem_of_getElem? (i := 14) rfl)
theorem wq_14_15 : Cond.instanceMethod yX3_unpin ∈ wsL_law := in_r14 _ (List.mem_of_getElem? (i := 15) rfl)
theorem wq_14_16 : Cond.selects RX3 yX3_unpin yX3_unpin ∈ wsL_law := in_r14 _ (List.mem_of_getElem? (i := 16) rfl)
theorem wq_14_17 : Cond.code yX3_unpin cX3_unpin 2 (some .int) ∈ wsL_law := in_r14 _ (List.mem_of_getElem? (i := 17) rfl)
theorem wq_14_18 : Cond.methodLink RL 83 yX4_unpin ∈ wsL_law := in_r14 _ (List.mem_of_getElem? (i := 18) rfl)
theorem wq_14_19 : Cond.instanceMethod yX4_unpin ∈ wsL_law := in_r14 _ (List.mem_of_getElem? (i := 19) rfl)
theorem wq_14_20 : Cond.selects RX4 yX4_unpin yX4_unpin ∈ wsL_law := in_r14 _ (List.mem_of_getElem? (i := 20) rfl)
theorem wq_14_21 : Cond.code yX4_unpin cX4_unpin 2 (some .int) ∈ wsL_law := in_r14 _ (List.mem_of_getElem? (i := 21) rfl)
theorem wq_14_22 : Cond.methodLink RL 84 yL_eat ∈ wsL_law := in_r14 _ (List.mem_of_getElem? (i := 22) rfl)
theorem wq_14_23 : Cond.static yL_eat ∈ wsL_law := in_r14 _ (List.mem_of_getElem? (i := 23) rfl)
theorem wq_15_0 : Cond.codeWith yL_eat cL_eat 4 (some .int) [(0, 9, 12, 13), (0, 9, 15, 15)] ∈ wsL_law := in_r15 _ (List.mem_of_getElem? (i := 0) rfl)
theorem wq_15_1 : Cond.methodLink RL 29 yX3_eat ∈ wsL_law := in_r15 _ (List.mem_of_getElem? (i := 1) rfl)
theorem wq_15_2 : Cond.instanceMethod yX3_eat ∈ wsL_law := in_r15 _ (List.mem_of_getElem? (i := 2) rfl)
theorem wq_15_3 : Cond.selects RX3 yX3_eat yX3_eat ∈ wsL_law := in_r15 _ (List.mem_of_getElem? (i := 3) rfl)
theorem wq_15_4 : Cond.code yX3_eat cX3_eat 2 (some .int) ∈ wsL_law := in_r15 _ (List.mem_of_getElem? (i := 4) rfl)
theorem wq_15_5 : Cond.methodLink RX3 64 yX1_remove ∈ wsL_law := in_r15 _ (List.mem_of_getElem? (i := 5) rfl)
theorem wq_15_6 : Cond.instanceMethod yX1_remove ∈ wsL_law := in_r15 _ (List.mem_of_getElem? (i := 6) rfl)
theorem wq_15_7 : Cond.selects RX1 yX1_remove yX1_remove ∈ wsL_law := in_r15 _ (List.mem_of_getElem? (i := 7) rfl)
theorem wq_15_8 : Cond.code yX1_remove cX1_remove 2 (some .int) ∈ wsL_law := in_r15 _ (List.mem_of_getElem? (i := 8) rfl)
theorem wq_15_9 : Cond.methodLink RL 86 yX4_eat ∈ wsL_law := in_r15 _ (List.mem_of_getElem? (i := 9) rfl)
theorem wq_15_10 : Cond.instanceMethod yX4_eat ∈ wsL_law := in_r15 _ (List.mem_of_getElem? (i := 10) rfl)
theorem wq_15_11 : Cond.selects RX4 yX4_eat yX4_eat ∈ wsL_law := in_r15 _ (List.mem_of_getElem? (i := 11) rfl)
theorem wq_15_12 : Cond.code yX4_eat cX4_eat 2 (some .int) ∈ wsL_law := in_r15 _ (List.mem_of_getElem? (i := 12) rfl)
theorem wq_15_13 : Cond.methodLink RX4 120 yX4_placeOf ∈ wsL_law := in_r15 _ (List.mem_of_getElem? (i := 13) rfl)
theorem wq_15_14 : Cond.instanceMethod yX4_placeOf ∈ wsL_law := in_r15 _ (List.mem_of_getElem? (i := 14) rfl)
theorem wq_15_15 : Cond.selects RX4 yX4_placeOf yX4_placeOf ∈ wsL_law := in_r15 _ (List.mem_of_getElem? (i := 15) rfl)
theorem wq_15_16 : Cond.code yX4_placeOf cX4_placeOf 3 (some .int) ∈ wsL_law := in_r15 _ (List.mem_of_getElem? (i := 16) rfl)
theorem wq_15_17 : Cond.methodLink RL 87 yL_setPlaces ∈ wsL_law := in_r15 _ (List.mem_of_getElem? (i := 17) rfl)
theorem wq_15_18 : Cond.static yL_setPlaces ∈ wsL_law := in_r15 _ (List.mem_of_getElem? (i := 18) rfl)
theorem wq_15_19 : Cond.codeWith yL_setPlaces cL_setPlaces 4 (some .int) [(0, 9, 12, 21), (0, 9, 15, 15)] ∈ wsL_law := in_r15 _ (List.mem_of_getElem? (i := 19) rfl)
theorem wq_15_20 : Cond.methodLink RL 32 yX3_setPlaces ∈ wsL_law := in_r15 _ (List.mem_of_getElem? (i := 20) rfl)
theorem wq_15_21 : Cond.instanceMethod yX3_setPlaces ∈ wsL_law := in_r15 _ (List.mem_of_getElem? (i := 21) rfl)
theorem wq_15_22 : Cond.selects RX3 yX3_setPlaces yX3_setPlaces ∈ wsL_law := in_r15 _ (List.mem_of_getElem? (i := 22) rfl)
theorem wq_15_23 : Cond.code yX3_setPlaces cX3_setPlaces 3 (some .int) ∈ wsL_law := in_r15 _ (List.mem_of_getElem? (i := 23) rfl)
theorem wq_16_0 : Cond.methodLink RX3 72 yX1_pinnedJars ∈ wsL_law := in_r16 _ (List.mem_of_getElem? (i := 0) rfl)
theorem wq_16_1 : Cond.methodLink RX3 82 yX1_resize ∈ wsL_law := in_r16 _ (List.mem_of_getElem? (i := 1) rfl)
theorem wq_16_2 : Cond.instanceMethod yX1_resize ∈ wsL_law := in_r16 _ (List.mem_of_getElem? (i := 2) rfl)
theorem wq_16_3 : Cond.selects RX1 yX1_resize yX1_resize ∈ wsL_law := in_r16 _ (List.mem_of_getElem? (i := 3) rfl)
theorem wq_16_4 : Cond.code yX1_resize cX1_resize 3 none ∈ wsL_law := in_r16 _ (List.mem_of_getElem? (i := 4) rfl)
theorem wq_16_5 : Cond.methodLink RL 89 yX4_setPlaces ∈ wsL_law := in_r16 _ (List.mem_of_getElem? (i := 5) rfl)
theorem wq_16_6 : Cond.instanceMethod yX4_setPlaces ∈ wsL_law := in_r16 _ (List.mem_of_getElem? (i := 6) rfl)
theorem wq_16_7 : Cond.selects RX4 yX4_setPlaces yX4_setPlaces ∈ wsL_law := in_r16 _ (List.mem_of_getElem? (i := 7) rfl)
theorem wq_16_8 : Cond.code yX4_setPlaces cX4_setPlaces 3 (some .int) ∈ wsL_law := in_r16 _ (List.mem_of_getElem? (i := 8) rfl)
theorem wq_16_9 : Cond.methodLink RX4 123 yX4_place ∈ wsL_law := in_r16 _ (List.mem_of_getElem? (i := 9) rfl)
theorem wq_16_10 : Cond.instanceMethod yX4_place ∈ wsL_law := in_r16 _ (List.mem_of_getElem? (i := 10) rfl)
theorem wq_16_11 : Cond.selects RX4 yX4_place yX4_place ∈ wsL_law := in_r16 _ (List.mem_of_getElem? (i := 11) rfl)
theorem wq_16_12 : Cond.code yX4_place cX4_place 2 none ∈ wsL_law := in_r16 _ (List.mem_of_getElem? (i := 12) rfl)
theorem wq_16_13 : Cond.methodLink RL 90 yL_setGoal ∈ wsL_law := in_r16 _ (List.mem_of_getElem? (i := 13) rfl)
theorem wq_16_14 : Cond.static yL_setGoal ∈ wsL_law := in_r16 _ (List.mem_of_getElem? (i := 14) rfl)
theorem wq_16_15 : Cond.codeWith yL_setGoal cL_setGoal 4 (some .int) [(0, 9, 12, 21)] ∈ wsL_law := in_r16 _ (List.mem_of_getElem? (i := 15) rfl)
theorem wq_16_16 : Cond.methodLink RL 35 yX3_setGoal ∈ wsL_law := in_r16 _ (List.mem_of_getElem? (i := 16) rfl)
theorem wq_16_17 : Cond.instanceMethod yX3_setGoal ∈ wsL_law := in_r16 _ (List.mem_of_getElem? (i := 17) rfl)
theorem wq_16_18 : Cond.selects RX3 yX3_setGoal yX3_setGoal ∈ wsL_law := in_r16 _ (List.mem_of_getElem? (i := 18) rfl)
theorem wq_16_19 : Cond.code yX3_setGoal cX3_setGoal 3 (some .int) ∈ wsL_law := in_r16 _ (List.mem_of_getElem? (i := 19) rfl)
theorem wq_16_20 : Cond.methodLink RL 92 yX4_setGoal ∈ wsL_law := in_r16 _ (List.mem_of_getElem? (i := 20) rfl)
theorem wq_16_21 : Cond.instanceMethod yX4_setGoal ∈ wsL_law := in_r16 _ (List.mem_of_getElem? (i := 21) rfl)
theorem wq_16_22 : Cond.selects RX4 yX4_setGoal yX4_setGoal ∈ wsL_law := in_r16 _ (List.mem_of_getElem? (i := 22) rfl)
theorem wq_16_23 : Cond.code yX4_setGoal cX4_setGoal 3 (some .int) ∈ wsL_law := in_r16 _ (List.mem_of_getElem? (i := 23) rfl)
theorem wq_17_0 : Cond.methodLink RL 93 yL_jar ∈ wsL_law := in_r17 _ (List.mem_of_getElem? (i := 0) rfl)
theorem wq_17_1 : Cond.static yL_jar ∈ wsL_law := in_r17 _ (List.mem_of_getElem? (i := 1) rfl)
theorem wq_17_2 : Cond.codeWith yL_jar cL_jar 5 (some .int) [(0, 10, 13, 13)] ∈ wsL_law := in_r17 _ (List.mem_of_getElem? (i := 2) rfl)
theorem wq_17_3 : Cond.methodLink RL 38 yX3_jar ∈ wsL_law := in_r17 _ (List.mem_of_getElem? (i := 3) rfl)
theorem wq_17_4 : Cond.instanceMethod yX3_jar ∈ wsL_law := in_r17 _ (List.mem_of_getElem? (i := 4) rfl)
theorem wq_17_5 : Cond.selects RX3 yX3_jar yX3_jar ∈ wsL_law := in_r17 _ (List.mem_of_getElem? (i := 5) rfl)
theorem wq_17_6 : Cond.code yX3_jar cX3_jar 3 (some .int) ∈ wsL_law := in_r17 _ (List.mem_of_getElem? (i := 6) rfl)
theorem wq_17_7 : Cond.methodLink RX3 95 yX1_detail ∈ wsL_law := in_r17 _ (List.mem_of_getElem? (i := 7) rfl)
theorem wq_17_8 : Cond.instanceMethod yX1_detail ∈ wsL_law := in_r17 _ (List.mem_of_getElem? (i := 8) rfl)
theorem wq_17_9 : Cond.selects RX1 yX1_detail yX1_detail ∈ wsL_law := in_r17 _ (List.mem_of_getElem? (i := 9) rfl)
theorem wq_17_10 : Cond.code yX1_detail cX1_detail 5 (some .int) ∈ wsL_law := in_r17 _ (List.mem_of_getElem? (i := 10) rfl)
theorem wq_17_11 : Cond.methodLink RL 96 yX4_jar ∈ wsL_law := in_r17 _ (List.mem_of_getElem? (i := 11) rfl)
theorem wq_17_12 : Cond.instanceMethod yX4_jar ∈ wsL_law := in_r17 _ (List.mem_of_getElem? (i := 12) rfl)
theorem wq_17_13 : Cond.selects RX4 yX4_jar yX4_jar ∈ wsL_law := in_r17 _ (List.mem_of_getElem? (i := 13) rfl)
theorem wq_17_14 : Cond.code yX4_jar cX4_jar 3 (some .int) ∈ wsL_law := in_r17 _ (List.mem_of_getElem? (i := 14) rfl)
theorem wq_17_15 : Cond.methodLink RL 97 yL_shelf ∈ wsL_law := in_r17 _ (List.mem_of_getElem? (i := 15) rfl)
theorem wq_17_16 : Cond.static yL_shelf ∈ wsL_law := in_r17 _ (List.mem_of_getElem? (i := 16) rfl)
theorem wq_17_17 : Cond.codeWith yL_shelf cL_shelf 5 (some .int) [(0, 10, 13, 13)] ∈ wsL_law := in_r17 _ (List.mem_of_getElem? (i := 17) rfl)
theorem wq_17_18 : Cond.methodLink RL 42 yX3_shelf ∈ wsL_law := in_r17 _ (List.mem_of_getElem? (i := 18) rfl)
theorem wq_17_19 : Cond.instanceMethod yX3_shelf ∈ wsL_law := in_r17 _ (List.mem_of_getElem? (i := 19) rfl)
theorem wq_17_20 : Cond.selects RX3 yX3_shelf yX3_shelf ∈ wsL_law := in_r17 _ (List.mem_of_getElem? (i := 20) rfl)
theorem wq_17_21 : Cond.code yX3_shelf cX3_shelf 3 (some .int) ∈ wsL_law := in_r17 _ (List.mem_of_getElem? (i := 21) rfl)
theorem wq_17_22 : Cond.methodLink RX3 98 yX3_requireShelf ∈ wsL_law := in_r17 _ (List.mem_of_getElem? (i := 22) rfl)
theorem wq_17_23 : Cond.static yX3_requireShelf ∈ wsL_law := in_r17 _ (List.mem_of_getElem? (i := 23) rfl)
theorem wq_18_0 : Cond.code yX3_requireShelf cX3_requireShelf 1 none ∈ wsL_law := in_r18 _ (List.mem_of_getElem? (i := 0) rfl)
theorem wq_18_1 : Cond.methodLink RX3 101 yX1_rowOf ∈ wsL_law := in_r18 _ (List.mem_of_getElem? (i := 1) rfl)
theorem wq_18_2 : Cond.methodLink RX3 105 yX3_requireAt ∈ wsL_law := in_r18 _ (List.mem_of_getElem? (i := 2) rfl)
theorem wq_18_3 : Cond.static yX3_requireAt ∈ wsL_law := in_r18 _ (List.mem_of_getElem? (i := 3) rfl)
theorem wq_18_4 : Cond.code yX3_requireAt cX3_requireAt 3 (some .int) ∈ wsL_law := in_r18 _ (List.mem_of_getElem? (i := 4) rfl)
theorem wq_18_5 : Cond.methodLink RX3 160 yX0_at ∈ wsL_law := in_r18 _ (List.mem_of_getElem? (i := 5) rfl)
theorem wq_18_6 : Cond.methodLink RL 99 yX4_shelf ∈ wsL_law := in_r18 _ (List.mem_of_getElem? (i := 6) rfl)
theorem wq_18_7 : Cond.instanceMethod yX4_shelf ∈ wsL_law := in_r18 _ (List.mem_of_getElem? (i := 7) rfl)
theorem wq_18_8 : Cond.selects RX4 yX4_shelf yX4_shelf ∈ wsL_law := in_r18 _ (List.mem_of_getElem? (i := 8) rfl)
theorem wq_18_9 : Cond.code yX4_shelf cX4_shelf 3 (some .int) ∈ wsL_law := in_r18 _ (List.mem_of_getElem? (i := 9) rfl)
theorem wq_18_10 : Cond.methodLink RL 100 yL_ghost ∈ wsL_law := in_r18 _ (List.mem_of_getElem? (i := 10) rfl)
theorem wq_18_11 : Cond.static yL_ghost ∈ wsL_law := in_r18 _ (List.mem_of_getElem? (i := 11) rfl)
theorem wq_18_12 : Cond.codeWith yL_ghost cL_ghost 5 (some .int) [(0, 10, 13, 13)] ∈ wsL_law := in_r18 _ (List.mem_of_getElem? (i := 12) rfl)
theorem wq_18_13 : Cond.methodLink RL 45 yX3_ghost ∈ wsL_law := in_r18 _ (List.mem_of_getElem? (i := 13) rfl)
theorem wq_18_14 : Cond.instanceMethod yX3_ghost ∈ wsL_law := in_r18 _ (List.mem_of_getElem? (i := 14) rfl)
theorem wq_18_15 : Cond.selects RX3 yX3_ghost yX3_ghost ∈ wsL_law := in_r18 _ (List.mem_of_getElem? (i := 15) rfl)
theorem wq_18_16 : Cond.code yX3_ghost cX3_ghost 3 (some .int) ∈ wsL_law := in_r18 _ (List.mem_of_getElem? (i := 16) rfl)
theorem wq_18_17 : Cond.methodLink RX3 109 yX1_listOf ∈ wsL_law := in_r18 _ (List.mem_of_getElem? (i := 17) rfl)
theorem wq_18_18 : Cond.methodLink RL 102 yX4_ghost ∈ wsL_law := in_r18 _ (List.mem_of_getElem? (i := 18) rfl)
theorem wq_18_19 : Cond.instanceMethod yX4_ghost ∈ wsL_law := in_r18 _ (List.mem_of_getElem? (i := 19) rfl)
theorem wq_18_20 : Cond.selects RX4 yX4_ghost yX4_ghost ∈ wsL_law := in_r18 _ (List.mem_of_getElem? (i := 20) rfl)
theorem wq_18_21 : Cond.code yX4_ghost cX4_ghost 3 (some .int) ∈ wsL_law := in_r18 _ (List.mem_of_getElem? (i := 21) rfl)
theorem wq_18_22 : Cond.methodLink RL 103 yL_count ∈ wsL_law := in_r18 _ (List.mem_of_getElem? (i := 22) rfl)
theorem wq_18_23 : Cond.static yL_count ∈ wsL_law := in_r18 _ (List.mem_of_getElem? (i := 23) rfl)
theorem wq_19_0 : Cond.codeWith yL_count cL_count 4 (some .int) [(0, 9, 12, 13)] ∈ wsL_law := in_r19 _ (List.mem_of_getElem? (i := 0) rfl)
theorem wq_19_1 : Cond.methodLink RL 48 yX3_count ∈ wsL_law := in_r19 _ (List.mem_of_getElem? (i := 1) rfl)
theorem wq_19_2 : Cond.instanceMethod yX3_count ∈ wsL_law := in_r19 _ (List.mem_of_getElem? (i := 2) rfl)
theorem wq_19_3 : Cond.selects RX3 yX3_count yX3_count ∈ wsL_law := in_r19 _ (List.mem_of_getElem? (i := 3) rfl)
theorem wq_19_4 : Cond.code yX3_count cX3_count 2 (some .int) ∈ wsL_law := in_r19 _ (List.mem_of_getElem? (i := 4) rfl)
theorem wq_19_5 : Cond.methodLink RX3 114 yX1_tally ∈ wsL_law := in_r19 _ (List.mem_of_getElem? (i := 5) rfl)
theorem wq_19_6 : Cond.instanceMethod yX1_tally ∈ wsL_law := in_r19 _ (List.mem_of_getElem? (i := 6) rfl)
theorem wq_19_7 : Cond.selects RX1 yX1_tally yX1_tally ∈ wsL_law := in_r19 _ (List.mem_of_getElem? (i := 7) rfl)
theorem wq_19_8 : Cond.code yX1_tally cX1_tally 2 (some .int) ∈ wsL_law := in_r19 _ (List.mem_of_getElem? (i := 8) rfl)
theorem wq_19_9 : Cond.methodLink RL 105 yX4_count ∈ wsL_law := in_r19 _ (List.mem_of_getElem? (i := 9) rfl)
theorem wq_19_10 : Cond.instanceMethod yX4_count ∈ wsL_law := in_r19 _ (List.mem_of_getElem? (i := 10) rfl)
theorem wq_19_11 : Cond.selects RX4 yX4_count yX4_count ∈ wsL_law := in_r19 _ (List.mem_of_getElem? (i := 11) rfl)
theorem wq_19_12 : Cond.code yX4_count cX4_count 2 (some .int) ∈ wsL_law := in_r19 _ (List.mem_of_getElem? (i := 12) rfl)
theorem wq_19_13 : Cond.methodLink RX4 126 yX4_counted ∈ wsL_law := in_r19 _ (List.mem_of_getElem? (i := 13) rfl)
theorem wq_19_14 : Cond.instanceMethod yX4_counted ∈ wsL_law := in_r19 _ (List.mem_of_getElem? (i := 14) rfl)
theorem wq_19_15 : Cond.selects RX4 yX4_counted yX4_counted ∈ wsL_law := in_r19 _ (List.mem_of_getElem? (i := 15) rfl)
theorem wq_19_16 : Cond.code yX4_counted cX4_counted 2 (some .int) ∈ wsL_law := in_r19 _ (List.mem_of_getElem? (i := 16) rfl)
theorem wq_19_17 : Cond.methodLink RL 106 yX3_next ∈ wsL_law := in_r19 _ (List.mem_of_getElem? (i := 17) rfl)
theorem wq_19_18 : Cond.instanceMethod yX3_next ∈ wsL_law := in_r19 _ (List.mem_of_getElem? (i := 18) rfl)
theorem wq_19_19 : Cond.selects RX3 yX3_next yX3_next ∈ wsL_law := in_r19 _ (List.mem_of_getElem? (i := 19) rfl)
theorem wq_19_20 : Cond.code yX3_next cX3_next 1 (some .int) ∈ wsL_law := in_r19 _ (List.mem_of_getElem? (i := 20) rfl)
theorem wq_19_21 : Cond.methodLink RX3 117 yX1_become ∈ wsL_law := in_r19 _ (List.mem_of_getElem? (i := 21) rfl)
theorem wq_19_22 : Cond.instanceMethod yX1_become ∈ wsL_law := in_r19 _ (List.mem_of_getElem? (i := 22) rfl)
theorem wq_19_23 : Cond.selects RX1 yX1_become yX1_become ∈ wsL_law := in_r19 _ (List.mem_of_getElem? (i := 23) rfl)
theorem wq_20_0 : Cond.code yX1_become cX1_become 2 none ∈ wsL_law := in_r20 _ (List.mem_of_getElem? (i := 0) rfl)
theorem wq_20_1 : Cond.methodLink RX1 44 yX0_become ∈ wsL_law := in_r20 _ (List.mem_of_getElem? (i := 1) rfl)
theorem wq_20_2 : Cond.instanceMethod yX0_become ∈ wsL_law := in_r20 _ (List.mem_of_getElem? (i := 2) rfl)
theorem wq_20_3 : Cond.selects RX0 yX0_become yX0_become ∈ wsL_law := in_r20 _ (List.mem_of_getElem? (i := 3) rfl)
theorem wq_20_4 : Cond.code yX0_become cX0_become 3 none ∈ wsL_law := in_r20 _ (List.mem_of_getElem? (i := 4) rfl)
theorem wq_20_5 : Cond.methodLink RX1 48 yX2_become ∈ wsL_law := in_r20 _ (List.mem_of_getElem? (i := 5) rfl)
theorem wq_20_6 : Cond.instanceMethod yX2_become ∈ wsL_law := in_r20 _ (List.mem_of_getElem? (i := 6) rfl)
theorem wq_20_7 : Cond.selects RX2 yX2_become yX2_become ∈ wsL_law := in_r20 _ (List.mem_of_getElem? (i := 7) rfl)
theorem wq_20_8 : Cond.code yX2_become cX2_become 3 none ∈ wsL_law := in_r20 _ (List.mem_of_getElem? (i := 8) rfl)
theorem wq_20_9 : Cond.methodLink RX3 121 yX1_sweep ∈ wsL_law := in_r20 _ (List.mem_of_getElem? (i := 9) rfl)
theorem wq_20_10 : Cond.methodLink RL 109 yX4_next ∈ wsL_law := in_r20 _ (List.mem_of_getElem? (i := 10) rfl)
theorem wq_20_11 : Cond.instanceMethod yX4_next ∈ wsL_law := in_r20 _ (List.mem_of_getElem? (i := 11) rfl)
theorem wq_20_12 : Cond.selects RX4 yX4_next yX4_next ∈ wsL_law := in_r20 _ (List.mem_of_getElem? (i := 12) rfl)
theorem wq_20_13 : Cond.code yX4_next cX4_next 3 (some .int) ∈ wsL_law := in_r20 _ (List.mem_of_getElem? (i := 13) rfl)
theorem wq_20_14 : Cond.methodLink RX4 134 yX4_kept ∈ wsL_law := in_r20 _ (List.mem_of_getElem? (i := 14) rfl)
theorem wq_20_15 : Cond.instanceMethod yX4_kept ∈ wsL_law := in_r20 _ (List.mem_of_getElem? (i := 15) rfl)
theorem wq_20_16 : Cond.selects RX4 yX4_kept yX4_kept ∈ wsL_law := in_r20 _ (List.mem_of_getElem? (i := 16) rfl)
theorem wq_20_17 : Cond.code yX4_kept cX4_kept 1 (some (.array (.array .int))) ∈ wsL_law := in_r20 _ (List.mem_of_getElem? (i := 17) rfl)
theorem wq_20_18 : Cond.classLink RX4 129 "[I" ∈ wsL_law := in_r20 _ (List.mem_of_getElem? (i := 18) rfl)
theorem wq_20_19 : Cond.methodLink RX4 130 ⟨"[I", "clone", "()Ljava/lang/Object;"⟩ ∈ wsL_law := in_r20 _ (List.mem_of_getElem? (i := 19) rfl)
theorem wq_20_20 : Cond.sameMethod "[I" "java/lang/Object" "clone" "()Ljava/lang/Object;" ∈ wsL_law := in_r20 _ (List.mem_of_getElem? (i := 20) rfl)
theorem wq_20_21 : Cond.native ⟨"java/lang/Object", "clone", "()Ljava/lang/Object;"⟩ ∈ wsL_law := in_r20 _ (List.mem_of_getElem? (i := 21) rfl)
theorem wq_20_22 : Cond.instanceMethod ⟨"java/lang/Object", "clone", "()Ljava/lang/Object;"⟩ ∈ wsL_law := in_r20 _ (List.mem_of_getElem? (i := 22) rfl)
theorem wq_20_23 : Cond.selects "[I" ⟨"[I", "clone", "()Ljava/lang/Object;"⟩ ⟨"java/lang/Object", "clone", "()Ljava/lang/Object;"⟩ ∈ wsL_law := in_r20 _ (List.mem_of_getElem? (i := 23) rfl)
theorem wq_21_0 : Cond.methodLink RX4 138 yX4_bringBack ∈ wsL_law := in_r21 _ (List.mem_of_getElem? (i := 0) rfl)
theorem wq_21_1 : Cond.instanceMethod yX4_bringBack ∈ wsL_law := in_r21 _ (List.mem_of_getElem? (i := 1) rfl)
theorem wq_21_2 : Cond.selects RX4 yX4_bringBack yX4_bringBack ∈ wsL_law := in_r21 _ (List.mem_of_getElem? (i := 2) rfl)
theorem wq_21_3 : Cond.code yX4_bringBack cX4_bringBack 2 none ∈ wsL_law := in_r21 _ (List.mem_of_getElem? (i := 3) rfl)
theorem wq_21_4 : Cond.methodLink RL 110 yL_would ∈ wsL_law := in_r21 _ (List.mem_of_getElem? (i := 4) rfl)
theorem wq_21_5 : Cond.static yL_would ∈ wsL_law := in_r21 _ (List.mem_of_getElem? (i := 5) rfl)
theorem wq_21_6 : Cond.codeWith yL_would cL_would 4 (some .int) [(0, 9, 12, 13)] ∈ wsL_law := in_r21 _ (List.mem_of_getElem? (i := 6) rfl)
theorem wq_21_7 : Cond.methodLink RL 51 yX3_would ∈ wsL_law := in_r21 _ (List.mem_of_getElem? (i := 7) rfl)
theorem wq_21_8 : Cond.instanceMethod yX3_would ∈ wsL_law := in_r21 _ (List.mem_of_getElem? (i := 8) rfl)
theorem wq_21_9 : Cond.selects RX3 yX3_would yX3_would ∈ wsL_law := in_r21 _ (List.mem_of_getElem? (i := 9) rfl)
theorem wq_21_10 : Cond.code yX3_would cX3_would 2 (some .int) ∈ wsL_law := in_r21 _ (List.mem_of_getElem? (i := 10) rfl)
theorem wq_21_11 : Cond.methodLink RX3 124 yX1_forecast ∈ wsL_law := in_r21 _ (List.mem_of_getElem? (i := 11) rfl)
theorem wq_21_12 : Cond.methodLink RL 112 yX4_would ∈ wsL_law := in_r21 _ (List.mem_of_getElem? (i := 12) rfl)
theorem wq_21_13 : Cond.instanceMethod yX4_would ∈ wsL_law := in_r21 _ (List.mem_of_getElem? (i := 13) rfl)
theorem wq_21_14 : Cond.selects RX4 yX4_would yX4_would ∈ wsL_law := in_r21 _ (List.mem_of_getElem? (i := 14) rfl)
theorem wq_21_15 : Cond.code yX4_would cX4_would 2 (some .int) ∈ wsL_law := in_r21 _ (List.mem_of_getElem? (i := 15) rfl)
theorem wq_21_16 : Cond.methodLink RX4 142 yX4_told ∈ wsL_law := in_r21 _ (List.mem_of_getElem? (i := 16) rfl)
theorem wq_21_17 : Cond.instanceMethod yX4_told ∈ wsL_law := in_r21 _ (List.mem_of_getElem? (i := 17) rfl)
theorem wq_21_18 : Cond.selects RX4 yX4_told yX4_told ∈ wsL_law := in_r21 _ (List.mem_of_getElem? (i := 18) rfl)
theorem wq_21_19 : Cond.code yX4_told cX4_told 2 (some .int) ∈ wsL_law := in_r21 _ (List.mem_of_getElem? (i := 19) rfl)
theorem wq_21_20 : Cond.methodLink RL 113 yL_trial ∈ wsL_law := in_r21 _ (List.mem_of_getElem? (i := 20) rfl)
theorem wq_21_21 : Cond.static yL_trial ∈ wsL_law := in_r21 _ (List.mem_of_getElem? (i := 21) rfl)
theorem wq_21_22 : Cond.codeWith yL_trial cL_trial 6 (some .int) [(0, 12, 15, 13), (0, 12, 19, 21)] ∈ wsL_law := in_r21 _ (List.mem_of_getElem? (i := 22) rfl)
theorem wq_21_23 : Cond.methodLink RL 54 yX3_trial ∈ wsL_law := in_r21 _ (List.mem_of_getElem? (i := 23) rfl)
theorem wq_22_0 : Cond.instanceMethod yX3_trial ∈ wsL_law := in_r22 _ (List.mem_of_getElem? (i := 0) rfl)
theorem wq_22_1 : Cond.selects RX3 yX3_trial yX3_trial ∈ wsL_law := in_r22 _ (List.mem_of_getElem? (i := 1) rfl)
theorem wq_22_2 : Cond.code yX3_trial cX3_trial 4 (some .int) ∈ wsL_law := in_r22 _ (List.mem_of_getElem? (i := 2) rfl)
theorem wq_22_3 : Cond.methodLink RL 115 yX4_trial ∈ wsL_law := in_r22 _ (List.mem_of_getElem? (i := 3) rfl)
theorem wq_22_4 : Cond.instanceMethod yX4_trial ∈ wsL_law := in_r22 _ (List.mem_of_getElem? (i := 4) rfl)
theorem wq_22_5 : Cond.selects RX4 yX4_trial yX4_trial ∈ wsL_law := in_r22 _ (List.mem_of_getElem? (i := 5) rfl)
theorem wq_22_6 : Cond.code yX4_trial cX4_trial 6 (some .int) ∈ wsL_law := in_r22 _ (List.mem_of_getElem? (i := 6) rfl)
theorem wq_22_7 : Cond.methodLink RL 116 yL_advise ∈ wsL_law := in_r22 _ (List.mem_of_getElem? (i := 7) rfl)
theorem wq_22_8 : Cond.static yL_advise ∈ wsL_law := in_r22 _ (List.mem_of_getElem? (i := 8) rfl)
theorem wq_22_9 : Cond.codeWith yL_advise cL_advise 6 (some .int) [(0, 12, 15, 13), (0, 12, 19, 21)] ∈ wsL_law := in_r22 _ (List.mem_of_getElem? (i := 9) rfl)
theorem wq_22_10 : Cond.methodLink RL 57 yX3_advise ∈ wsL_law := in_r22 _ (List.mem_of_getElem? (i := 10) rfl)
theorem wq_22_11 : Cond.instanceMethod yX3_advise ∈ wsL_law := in_r22 _ (List.mem_of_getElem? (i := 11) rfl)
theorem wq_22_12 : Cond.selects RX3 yX3_advise yX3_advise ∈ wsL_law := in_r22 _ (List.mem_of_getElem? (i := 12) rfl)
theorem wq_22_13 : Cond.code yX3_advise cX3_advise 8 (some .int) ∈ wsL_law := in_r22 _ (List.mem_of_getElem? (i := 13) rfl)
theorem wq_22_14 : Cond.methodLink RX3 127 Lib.Math.max.name ∈ wsL_law := in_r22 _ (List.mem_of_getElem? (i := 14) rfl)
theorem wq_22_15 : Cond.methodLink RL 118 yX4_advise ∈ wsL_law := in_r22 _ (List.mem_of_getElem? (i := 15) rfl)
theorem wq_22_16 : Cond.instanceMethod yX4_advise ∈ wsL_law := in_r22 _ (List.mem_of_getElem? (i := 16) rfl)
theorem wq_22_17 : Cond.selects RX4 yX4_advise yX4_advise ∈ wsL_law := in_r22 _ (List.mem_of_getElem? (i := 17) rfl)
theorem wq_22_18 : Cond.code yX4_advise cX4_advise 9 (some .int) ∈ wsL_law := in_r22 _ (List.mem_of_getElem? (i := 18) rfl)
theorem wq_22_19 : Cond.methodLink RL 119 yX3_mean ∈ wsL_law := in_r22 _ (List.mem_of_getElem? (i := 19) rfl)
theorem wq_22_20 : Cond.instanceMethod yX3_mean ∈ wsL_law := in_r22 _ (List.mem_of_getElem? (i := 20) rfl)
theorem wq_22_21 : Cond.selects RX3 yX3_mean yX3_mean ∈ wsL_law := in_r22 _ (List.mem_of_getElem? (i := 21) rfl)
theorem wq_22_22 : Cond.code yX3_mean cX3_mean 2 (some .double) ∈ wsL_law := in_r22 _ (List.mem_of_getElem? (i := 22) rfl)
theorem wq_22_23 : Cond.methodLink RX3 132 yX1_jars ∈ wsL_law := in_r22 _ (List.mem_of_getElem? (i := 23) rfl)
theorem wq_23_0 : Cond.methodLink RX3 135 yX1_fetchesOfAll ∈ wsL_law := in_r23 _ (List.mem_of_getElem? (i := 0) rfl)
theorem wq_23_1 : Cond.instanceMethod yX1_fetchesOfAll ∈ wsL_law := in_r23 _ (List.mem_of_getElem? (i := 1) rfl)
theorem wq_23_2 : Cond.selects RX1 yX1_fetchesOfAll yX1_fetchesOfAll ∈ wsL_law := in_r23 _ (List.mem_of_getElem? (i := 2) rfl)
theorem wq_23_3 : Cond.code yX1_fetchesOfAll cX1_fetchesOfAll 3 (some .int) ∈ wsL_law := in_r23 _ (List.mem_of_getElem? (i := 3) rfl)
theorem wq_23_4 : Cond.methodLink RL 123 yX4_mean ∈ wsL_law := in_r23 _ (List.mem_of_getElem? (i := 4) rfl)
theorem wq_23_5 : Cond.instanceMethod yX4_mean ∈ wsL_law := in_r23 _ (List.mem_of_getElem? (i := 5) rfl)
theorem wq_23_6 : Cond.selects RX4 yX4_mean yX4_mean ∈ wsL_law := in_r23 _ (List.mem_of_getElem? (i := 6) rfl)
theorem wq_23_7 : Cond.code yX4_mean cX4_mean 3 (some .double) ∈ wsL_law := in_r23 _ (List.mem_of_getElem? (i := 7) rfl)
theorem wq_23_8 : Cond.methodLink RL 124 yX3_digest ∈ wsL_law := in_r23 _ (List.mem_of_getElem? (i := 8) rfl)
theorem wq_23_9 : Cond.instanceMethod yX3_digest ∈ wsL_law := in_r23 _ (List.mem_of_getElem? (i := 9) rfl)
theorem wq_23_10 : Cond.selects RX3 yX3_digest yX3_digest ∈ wsL_law := in_r23 _ (List.mem_of_getElem? (i := 10) rfl)
theorem wq_23_11 : Cond.code yX3_digest cX3_digest 4 (some .long) ∈ wsL_law := in_r23 _ (List.mem_of_getElem? (i := 11) rfl)
theorem wq_23_12 : Cond.constantLong RX3 138 (1541) ∈ wsL_law := in_r23 _ (List.mem_of_getElem? (i := 12) rfl)
theorem wq_23_13 : Cond.constantLong RX3 140 (31) ∈ wsL_law := in_r23 _ (List.mem_of_getElem? (i := 13) rfl)
theorem wq_23_14 : Cond.methodLink RX3 142 yX1_digestJars ∈ wsL_law := in_r23 _ (List.mem_of_getElem? (i := 14) rfl)
theorem wq_23_15 : Cond.instanceMethod yX1_digestJars ∈ wsL_law := in_r23 _ (List.mem_of_getElem? (i := 15) rfl)
theorem wq_23_16 : Cond.selects RX1 yX1_digestJars yX1_digestJars ∈ wsL_law := in_r23 _ (List.mem_of_getElem? (i := 16) rfl)
theorem wq_23_17 : Cond.code yX1_digestJars cX1_digestJars 8 (some .long) ∈ wsL_law := in_r23 _ (List.mem_of_getElem? (i := 17) rfl)
theorem wq_23_18 : Cond.constantLong RX1 151 (31) ∈ wsL_law := in_r23 _ (List.mem_of_getElem? (i := 18) rfl)
theorem wq_23_19 : Cond.methodLink RX3 146 yX0_digestKinds ∈ wsL_law := in_r23 _ (List.mem_of_getElem? (i := 19) rfl)
theorem wq_23_20 : Cond.instanceMethod yX0_digestKinds ∈ wsL_law := in_r23 _ (List.mem_of_getElem? (i := 20) rfl)
theorem wq_23_21 : Cond.selects RX0 yX0_digestKinds yX0_digestKinds ∈ wsL_law := in_r23 _ (List.mem_of_getElem? (i := 21) rfl)
theorem wq_23_22 : Cond.code yX0_digestKinds cX0_digestKinds 6 (some .long) ∈ wsL_law := in_r23 _ (List.mem_of_getElem? (i := 22) rfl)
theorem wq_23_23 : Cond.constantLong RX0 27 (31) ∈ wsL_law := in_r23 _ (List.mem_of_getElem? (i := 23) rfl)
theorem wq_24_0 : Cond.methodLink RX0 29 yX0_at ∈ wsL_law := in_r24 _ (List.mem_of_getElem? (i := 0) rfl)
theorem wq_24_1 : Cond.methodLink RL 128 yX4_digest ∈ wsL_law := in_r24 _ (List.mem_of_getElem? (i := 1) rfl)
theorem wq_24_2 : Cond.instanceMethod yX4_digest ∈ wsL_law := in_r24 _ (List.mem_of_getElem? (i := 2) rfl)
theorem wq_24_3 : Cond.selects RX4 yX4_digest yX4_digest ∈ wsL_law := in_r24 _ (List.mem_of_getElem? (i := 3) rfl)
theorem wq_24_4 : Cond.code yX4_digest cX4_digest 7 (some .long) ∈ wsL_law := in_r24 _ (List.mem_of_getElem? (i := 4) rfl)
theorem wq_24_5 : Cond.constantLong RX4 145 (1541) ∈ wsL_law := in_r24 _ (List.mem_of_getElem? (i := 5) rfl)
theorem wq_24_6 : Cond.constantLong RX4 147 (31) ∈ wsL_law := in_r24 _ (List.mem_of_getElem? (i := 6) rfl)
theorem cw_RL_60 : CWI RL 60 yX3_init cX3_init 1 0 := ⟨wq_1_7, wq_1_8, wq_1_2, wq_1_9, rfl, ⟨by decide, by decide, by decide +kernel⟩⟩
theorem cw_RX3_9 : CWI RX3 9 yX1_init cX1_init 1 0 := ⟨wq_1_18, wq_1_19, wq_1_15, wq_1_20, rfl, ⟨by decide, by decide, by decide +kernel⟩⟩
theorem cw_RX1_11 : CWI RX1 11 yX0_init cX0_init 1 0 := ⟨wq_2_12, wq_2_13, wq_2_0, wq_2_14, rfl, ⟨by decide, by decide, by decide +kernel⟩⟩
theorem cw_RX1_29 : CWI RX1 29 yX2_init cX2_init 1 0 := ⟨wq_2_19, wq_2_20, wq_2_7, wq_2_21, rfl, ⟨by decide, by decide, by decide +kernel⟩⟩
theorem cw_RL_63 : CWI RL 63 yX4_init cX4_init 2 0 := ⟨wq_3_0, wq_3_1, wq_1_5, wq_3_2, rfl, ⟨by decide, by decide, by decide +kernel⟩⟩
theorem cw_RL_7 : CWV RL 7 yX3_fetch cX3_fetch 3 (some .int) 1 := ⟨wq_3_14, wq_3_15, wq_3_16, wq_1_2, wq_3_17, ⟨by decide, by decide, by decide +kernel⟩⟩
theorem cw_RX3_19 : CWS RX3 19 yX3_requireKind cX3_requireKind 1 none 1 := ⟨wq_3_20, wq_3_21, wq_1_2, wq_3_22, ⟨by decide, by decide, by decide +kernel⟩⟩
theorem cw_RX3_23 : CWV RX3 23 yX1_bring cX1_bring 3 (some .int) 1 := ⟨wq_4_1, wq_4_2, wq_4_3, wq_1_15, wq_4_4, ⟨by decide, by decide, by decide +kernel⟩⟩
theorem cw_RX1_94 : CWV RX1 94 yX1_forecast cX1_forecast 2 (some .int) 1 := ⟨wq_4_7, wq_4_8, wq_4_9, wq_1_15, wq_4_10, ⟨by decide, by decide, by decide +kernel⟩⟩
theorem cw_RX1_84 : CWV RX1 84 yX1_hasJar cX1_hasJar 2 (some .boolean) 1 := ⟨wq_4_11, wq_4_12, wq_4_13, wq_1_15, wq_4_14, ⟨by decide, by decide, by decide +kernel⟩⟩
theorem cw_RX1_66 : CWV RX1 66 yX0_has cX0_has 2 (some .boolean) 1 := ⟨wq_4_15, wq_4_16, wq_4_17, wq_2_0, wq_4_18, ⟨by decide, by decide, by decide +kernel⟩⟩
theorem cw_RX0_19 : CWV RX0 19 yX0_placeOf cX0_placeOf 3 (some .int) 1 := ⟨wq_4_19, wq_4_20, wq_4_21, wq_2_0, wq_4_22, ⟨by decide, by decide, by decide +kernel⟩⟩
theorem cw_RX1_87 : CWV RX1 87 yX1_jars cX1_jars 1 (some .int) 0 := ⟨wq_4_23, wq_5_0, wq_5_1, wq_1_15, wq_5_2, ⟨by decide, by decide, by decide +kernel⟩⟩
theorem cw_RX1_91 : CWV RX1 91 yX1_pinnedJars cX1_pinnedJars 1 (some .int) 0 := ⟨wq_5_3, wq_5_4, wq_5_5, wq_1_15, wq_5_6, ⟨by decide, by decide, by decide +kernel⟩⟩
theorem cw_RX1_73 : CWV RX1 73 yX1_pinnedOn cX1_pinnedOn 4 (some .int) 1 := ⟨wq_5_7, wq_5_8, wq_5_9, wq_1_15, wq_5_10, ⟨by decide, by decide, by decide +kernel⟩⟩
theorem cw_RX1_77 : CWV RX1 77 yX0_at cX0_at 2 (some .int) 1 := ⟨wq_5_11, wq_5_12, wq_5_13, wq_2_0, wq_5_14, ⟨by decide, by decide, by decide +kernel⟩⟩
theorem cw_RX1_81 : CWV RX1 81 yX2_of cX2_of 2 (some .int) 1 := ⟨wq_5_15, wq_5_16, wq_5_17, wq_2_7, wq_5_18, ⟨by decide, by decide, by decide +kernel⟩⟩
theorem cw_RX1_97 : CWV RX1 97 yX2_put cX2_put 3 none 2 := ⟨wq_5_19, wq_5_20, wq_5_21, wq_2_7, wq_5_22, ⟨by decide, by decide, by decide +kernel⟩⟩
theorem cw_RX1_101 : CWV RX1 101 yX1_recall cX1_recall 3 none 2 := ⟨wq_5_23, wq_6_0, wq_6_1, wq_1_15, wq_6_2, ⟨by decide, by decide, by decide +kernel⟩⟩
theorem cw_RX1_114 : CWS RX1 114 yX1_turn cX1_turn 3 (some .int) 2 := ⟨wq_6_12, wq_6_13, wq_1_15, wq_6_14, ⟨by decide, by decide, by decide +kernel⟩⟩
theorem cw_RX1_124 : CWV RX1 124 yX0_placeOf cX0_placeOf 3 (some .int) 1 := ⟨wq_6_15, wq_4_20, wq_4_21, wq_2_0, wq_4_22, ⟨by decide, by decide, by decide +kernel⟩⟩
theorem cw_RX1_127 : CWV RX1 127 yX0_takeOut cX0_takeOut 3 none 1 := ⟨wq_6_16, wq_6_17, wq_6_18, wq_2_0, wq_6_19, ⟨by decide, by decide, by decide +kernel⟩⟩
theorem cw_RX1_104 : CWV RX1 104 yX1_sweep cX1_sweep 5 (some .int) 0 := ⟨wq_6_20, wq_6_21, wq_6_22, wq_1_15, wq_6_23, ⟨by decide, by decide, by decide +kernel⟩⟩
theorem cw_RX1_138 : CWV RX1 138 yX1_givingShelf cX1_givingShelf 4 (some .int) 0 := ⟨wq_7_2, wq_7_3, wq_7_4, wq_1_15, wq_7_5, ⟨by decide, by decide, by decide +kernel⟩⟩
theorem cw_RX1_141 : CWV RX1 141 yX1_rowOf cX1_rowOf 2 (some (.object "PinnedPantry$Row")) 1 := ⟨wq_7_6, wq_7_7, wq_7_8, wq_1_15, wq_7_9, ⟨by decide, by decide, by decide +kernel⟩⟩
theorem cw_RX1_134 : CWV RX1 134 yX0_append cX0_append 2 none 1 := ⟨wq_7_10, wq_7_11, wq_7_12, wq_2_0, wq_7_13, ⟨by decide, by decide, by decide +kernel⟩⟩
theorem cw_RX1_145 : CWV RX1 145 yX1_listOf cX1_listOf 2 (some (.object "PinnedPantry$Row")) 1 := ⟨wq_7_14, wq_7_15, wq_7_16, wq_1_15, wq_7_17, ⟨by decide, by decide, by decide +kernel⟩⟩
theorem cw_RX1_148 : CWV RX1 148 yX0_forgetEldest cX0_forgetEldest 3 none 1 := ⟨wq_7_18, wq_7_19, wq_7_20, wq_2_0, wq_7_21, ⟨by decide, by decide, by decide +kernel⟩⟩
theorem cw_RX0_23 : CWV RX0 23 yX0_takeOut cX0_takeOut 3 none 1 := ⟨wq_7_22, wq_6_17, wq_6_18, wq_2_0, wq_6_19, ⟨by decide, by decide, by decide +kernel⟩⟩
theorem cw_RX1_107 : CWV RX1 107 yX1_placeNewJar cX1_placeNewJar 3 none 2 := ⟨wq_7_23, wq_8_0, wq_8_1, wq_1_15, wq_8_2, ⟨by decide, by decide, by decide +kernel⟩⟩
theorem cw_RL_69 : CWV RL 69 yX4_fetch cX4_fetch 2 (some .int) 1 := ⟨wq_8_3, wq_8_4, wq_8_5, wq_1_5, wq_8_6, ⟨by decide, by decide, by decide +kernel⟩⟩
theorem cw_RX4_101 : CWS RX4 101 yX4_isKind cX4_isKind 1 (some .boolean) 1 := ⟨wq_8_8, wq_8_9, wq_1_5, wq_8_10, ⟨by decide, by decide, by decide +kernel⟩⟩
theorem cw_RX4_26 : CWS RX4 26 yX4_isIn cX4_isIn 3 (some .boolean) 3 := ⟨wq_8_11, wq_8_12, wq_1_5, wq_8_13, ⟨by decide, by decide, by decide +kernel⟩⟩
theorem cw_RX4_104 : CWV RX4 104 yX4_fail cX4_fail 2 (some .int) 1 := ⟨wq_8_14, wq_8_15, wq_8_16, wq_1_5, wq_8_17, ⟨by decide, by decide, by decide +kernel⟩⟩
theorem cw_RX4_107 : CWV RX4 107 yX4_canFetch cX4_canFetch 2 (some .boolean) 1 := ⟨wq_8_18, wq_8_19, wq_8_20, wq_1_5, wq_8_21, ⟨by decide, by decide, by decide +kernel⟩⟩
theorem cw_RX4_61 : CWV RX4 61 yX4_isThere cX4_isThere 2 (some .boolean) 1 := ⟨wq_8_22, wq_8_23, wq_9_0, wq_1_5, wq_9_1, ⟨by decide, by decide, by decide +kernel⟩⟩
theorem cw_RX4_30 : CWV RX4 30 yX4_ja cX4_ja 3 (some .int) 2 := ⟨wq_9_2, wq_9_3, wq_9_4, wq_1_5, wq_9_5, ⟨by decide, by decide, by decide +kernel⟩⟩
theorem cw_RX4_82 : CWV RX4 82 yX4_all cX4_all 1 (some .int) 0 := ⟨wq_9_6, wq_9_7, wq_9_8, wq_1_5, wq_9_9, ⟨by decide, by decide, by decide +kernel⟩⟩
theorem cw_RX4_34 : CWV RX4 34 yX4_many cX4_many 2 (some .int) 1 := ⟨wq_9_10, wq_9_11, wq_9_12, wq_1_5, wq_9_13, ⟨by decide, by decide, by decide +kernel⟩⟩
theorem cw_RX4_86 : CWV RX4 86 yX4_pinned cX4_pinned 3 (some .int) 0 := ⟨wq_9_14, wq_9_15, wq_9_16, wq_1_5, wq_9_17, ⟨by decide, by decide, by decide +kernel⟩⟩
theorem cw_RX4_110 : CWV RX4 110 yX4_fetched cX4_fetched 4 (some .int) 1 := ⟨wq_9_18, wq_9_19, wq_9_20, wq_1_5, wq_9_21, ⟨by decide, by decide, by decide +kernel⟩⟩
theorem cw_RX4_92 : CWV RX4 92 yX4_listOf cX4_listOf 2 (some .int) 1 := ⟨wq_10_4, wq_10_5, wq_10_6, wq_1_5, wq_10_7, ⟨by decide, by decide, by decide +kernel⟩⟩
theorem cw_RX4_89 : CWV RX4 89 yX4_listPlace cX4_listPlace 4 (some .int) 2 := ⟨wq_10_8, wq_10_9, wq_10_10, wq_1_5, wq_10_11, ⟨by decide, by decide, by decide +kernel⟩⟩
theorem cw_RX4_44 : CWV RX4 44 yX4_listed cX4_listed 2 (some .int) 1 := ⟨wq_10_12, wq_10_13, wq_10_14, wq_1_5, wq_10_15, ⟨by decide, by decide, by decide +kernel⟩⟩
theorem cw_RX4_55 : CWV RX4 55 yX4_listedAt cX4_listedAt 3 (some .int) 2 := ⟨wq_10_16, wq_10_17, wq_10_18, wq_1_5, wq_10_19, ⟨by decide, by decide, by decide +kernel⟩⟩
theorem cw_RX4_47 : CWV RX4 47 yX4_takeOff cX4_takeOff 3 none 2 := ⟨wq_10_20, wq_10_21, wq_10_22, wq_1_5, wq_10_23, ⟨by decide, by decide, by decide +kernel⟩⟩
theorem cw_RX4_98 : CWV RX4 98 yX4_sweep cX4_sweep 4 (some .int) 0 := ⟨wq_11_0, wq_11_1, wq_11_2, wq_1_5, wq_11_3, ⟨by decide, by decide, by decide +kernel⟩⟩
theorem cw_RX4_65 : CWV RX4 65 yX4_canGive cX4_canGive 3 (some .boolean) 1 := ⟨wq_11_4, wq_11_5, wq_11_6, wq_1_5, wq_11_7, ⟨by decide, by decide, by decide +kernel⟩⟩
theorem cw_RX4_58 : CWV RX4 58 yX4_kindAt cX4_kindAt 3 (some .int) 2 := ⟨wq_11_8, wq_11_9, wq_11_10, wq_1_5, wq_11_11, ⟨by decide, by decide, by decide +kernel⟩⟩
theorem cw_RX4_73 : CWV RX4 73 yX4_takeOut cX4_takeOut 3 none 2 := ⟨wq_11_12, wq_11_13, wq_11_14, wq_1_5, wq_11_15, ⟨by decide, by decide, by decide +kernel⟩⟩
theorem cw_RX4_76 : CWV RX4 76 yX4_putLast cX4_putLast 3 none 2 := ⟨wq_11_16, wq_11_17, wq_11_18, wq_1_5, wq_11_19, ⟨by decide, by decide, by decide +kernel⟩⟩
theorem cw_RX4_79 : CWV RX4 79 yX4_remember cX4_remember 3 none 2 := ⟨wq_11_20, wq_11_21, wq_11_22, wq_1_5, wq_11_23, ⟨by decide, by decide, by decide +kernel⟩⟩
theorem cw_RX4_51 : CWV RX4 51 yX4_forget cX4_forget 2 none 1 := ⟨wq_12_0, wq_12_1, wq_12_2, wq_1_5, wq_12_3, ⟨by decide, by decide, by decide +kernel⟩⟩
theorem cw_RL_70 : CWV RL 70 yX4_thrown cX4_thrown 1 (some .int) 0 := ⟨wq_12_4, wq_12_5, wq_12_6, wq_1_5, wq_12_7, ⟨by decide, by decide, by decide +kernel⟩⟩
theorem cw_RL_17 : CWV RL 17 yX3_fetchAll cX3_fetchAll 4 (some .int) 3 := ⟨wq_12_12, wq_12_13, wq_12_14, wq_1_2, wq_12_15, ⟨by decide, by decide, by decide +kernel⟩⟩
theorem cw_RX3_34 : CWS RX3 34 yX3_requireSeries cX3_requireSeries 3 none 3 := ⟨wq_12_16, wq_12_17, wq_1_2, wq_12_18, ⟨by decide, by decide, by decide +kernel⟩⟩
theorem cw_RX3_38 : CWV RX3 38 yX1_bringSeries cX1_bringSeries 6 (some .int) 3 := ⟨wq_12_21, wq_12_22, wq_12_23, wq_1_15, wq_13_0, ⟨by decide, by decide, by decide +kernel⟩⟩
theorem cw_RX1_111 : CWV RX1 111 yX1_bring cX1_bring 3 (some .int) 1 := ⟨wq_13_1, wq_4_2, wq_4_3, wq_1_15, wq_4_4, ⟨by decide, by decide, by decide +kernel⟩⟩
theorem cw_RL_77 : CWV RL 77 yX4_fetchAll cX4_fetchAll 4 (some .int) 3 := ⟨wq_13_2, wq_13_3, wq_13_4, wq_1_5, wq_13_5, ⟨by decide, by decide, by decide +kernel⟩⟩
theorem cw_RX4_113 : CWV RX4 113 yX4_wrong cX4_wrong 4 (some .int) 3 := ⟨wq_13_6, wq_13_7, wq_13_8, wq_1_5, wq_13_9, ⟨by decide, by decide, by decide +kernel⟩⟩
theorem cw_RX4_117 : CWV RX4 117 yX4_hits cX4_hits 6 (some .int) 3 := ⟨wq_13_10, wq_13_11, wq_13_12, wq_1_5, wq_13_13, ⟨by decide, by decide, by decide +kernel⟩⟩
theorem cw_RL_23 : CWV RL 23 yX3_pin cX3_pin 2 (some .int) 1 := ⟨wq_13_17, wq_13_18, wq_13_19, wq_1_2, wq_13_20, ⟨by decide, by decide, by decide +kernel⟩⟩
theorem cw_RX3_42 : CWV RX3 42 yX3_requireJar cX3_requireJar 2 none 1 := ⟨wq_13_21, wq_13_22, wq_13_23, wq_1_2, wq_14_0, ⟨by decide, by decide, by decide +kernel⟩⟩
theorem cw_RX3_165 : CWV RX3 165 yX1_hasJar cX1_hasJar 2 (some .boolean) 1 := ⟨wq_14_1, wq_4_12, wq_4_13, wq_1_15, wq_4_14, ⟨by decide, by decide, by decide +kernel⟩⟩
theorem cw_RX3_49 : CWV RX3 49 yX2_of cX2_of 2 (some .int) 1 := ⟨wq_14_2, wq_5_16, wq_5_17, wq_2_7, wq_5_18, ⟨by decide, by decide, by decide +kernel⟩⟩
theorem cw_RX3_56 : CWV RX3 56 yX1_changePins cX1_changePins 3 (some .int) 2 := ⟨wq_14_3, wq_14_4, wq_14_5, wq_1_15, wq_14_6, ⟨by decide, by decide, by decide +kernel⟩⟩
theorem cw_RL_80 : CWV RL 80 yX4_pin cX4_pin 2 (some .int) 1 := ⟨wq_14_7, wq_14_8, wq_14_9, wq_1_5, wq_14_10, ⟨by decide, by decide, by decide +kernel⟩⟩
theorem cw_RL_26 : CWV RL 26 yX3_unpin cX3_unpin 2 (some .int) 1 := ⟨wq_14_14, wq_14_15, wq_14_16, wq_1_2, wq_14_17, ⟨by decide, by decide, by decide +kernel⟩⟩
theorem cw_RL_83 : CWV RL 83 yX4_unpin cX4_unpin 2 (some .int) 1 := ⟨wq_14_18, wq_14_19, wq_14_20, wq_1_5, wq_14_21, ⟨by decide, by decide, by decide +kernel⟩⟩
theorem cw_RL_29 : CWV RL 29 yX3_eat cX3_eat 2 (some .int) 1 := ⟨wq_15_1, wq_15_2, wq_15_3, wq_1_2, wq_15_4, ⟨by decide, by decide, by decide +kernel⟩⟩
theorem cw_RX3_64 : CWV RX3 64 yX1_remove cX1_remove 2 (some .int) 1 := ⟨wq_15_5, wq_15_6, wq_15_7, wq_1_15, wq_15_8, ⟨by decide, by decide, by decide +kernel⟩⟩
theorem cw_RL_86 : CWV RL 86 yX4_eat cX4_eat 2 (some .int) 1 := ⟨wq_15_9, wq_15_10, wq_15_11, wq_1_5, wq_15_12, ⟨by decide, by decide, by decide +kernel⟩⟩
theorem cw_RX4_120 : CWV RX4 120 yX4_placeOf cX4_placeOf 3 (some .int) 1 := ⟨wq_15_13, wq_15_14, wq_15_15, wq_1_5, wq_15_16, ⟨by decide, by decide, by decide +kernel⟩⟩
theorem cw_RL_32 : CWV RL 32 yX3_setPlaces cX3_setPlaces 3 (some .int) 1 := ⟨wq_15_20, wq_15_21, wq_15_22, wq_1_2, wq_15_23, ⟨by decide, by decide, by decide +kernel⟩⟩
theorem cw_RX3_72 : CWV RX3 72 yX1_pinnedJars cX1_pinnedJars 1 (some .int) 0 := ⟨wq_16_0, wq_5_4, wq_5_5, wq_1_15, wq_5_6, ⟨by decide, by decide, by decide +kernel⟩⟩
theorem cw_RX3_82 : CWV RX3 82 yX1_resize cX1_resize 3 none 1 := ⟨wq_16_1, wq_16_2, wq_16_3, wq_1_15, wq_16_4, ⟨by decide, by decide, by decide +kernel⟩⟩
theorem cw_RL_89 : CWV RL 89 yX4_setPlaces cX4_setPlaces 3 (some .int) 1 := ⟨wq_16_5, wq_16_6, wq_16_7, wq_1_5, wq_16_8, ⟨by decide, by decide, by decide +kernel⟩⟩
theorem cw_RX4_123 : CWV RX4 123 yX4_place cX4_place 2 none 1 := ⟨wq_16_9, wq_16_10, wq_16_11, wq_1_5, wq_16_12, ⟨by decide, by decide, by decide +kernel⟩⟩
theorem cw_RL_35 : CWV RL 35 yX3_setGoal cX3_setGoal 3 (some .int) 1 := ⟨wq_16_16, wq_16_17, wq_16_18, wq_1_2, wq_16_19, ⟨by decide, by decide, by decide +kernel⟩⟩
theorem cw_RL_92 : CWV RL 92 yX4_setGoal cX4_setGoal 3 (some .int) 1 := ⟨wq_16_20, wq_16_21, wq_16_22, wq_1_5, wq_16_23, ⟨by decide, by decide, by decide +kernel⟩⟩
theorem cw_RL_38 : CWV RL 38 yX3_jar cX3_jar 3 (some .int) 2 := ⟨wq_17_3, wq_17_4, wq_17_5, wq_1_2, wq_17_6, ⟨by decide, by decide, by decide +kernel⟩⟩
theorem cw_RX3_95 : CWV RX3 95 yX1_detail cX1_detail 5 (some .int) 2 := ⟨wq_17_7, wq_17_8, wq_17_9, wq_1_15, wq_17_10, ⟨by decide, by decide, by decide +kernel⟩⟩
theorem cw_RL_96 : CWV RL 96 yX4_jar cX4_jar 3 (some .int) 2 := ⟨wq_17_11, wq_17_12, wq_17_13, wq_1_5, wq_17_14, ⟨by decide, by decide, by decide +kernel⟩⟩
theorem cw_RL_42 : CWV RL 42 yX3_shelf cX3_shelf 3 (some .int) 2 := ⟨wq_17_18, wq_17_19, wq_17_20, wq_1_2, wq_17_21, ⟨by decide, by decide, by decide +kernel⟩⟩
theorem cw_RX3_98 : CWS RX3 98 yX3_requireShelf cX3_requireShelf 1 none 1 := ⟨wq_17_22, wq_17_23, wq_1_2, wq_18_0, ⟨by decide, by decide, by decide +kernel⟩⟩
theorem cw_RX3_101 : CWV RX3 101 yX1_rowOf cX1_rowOf 2 (some (.object "PinnedPantry$Row")) 1 := ⟨wq_18_1, wq_7_7, wq_7_8, wq_1_15, wq_7_9, ⟨by decide, by decide, by decide +kernel⟩⟩
theorem cw_RX3_105 : CWS RX3 105 yX3_requireAt cX3_requireAt 3 (some .int) 2 := ⟨wq_18_2, wq_18_3, wq_1_2, wq_18_4, ⟨by decide, by decide, by decide +kernel⟩⟩
theorem cw_RX3_160 : CWV RX3 160 yX0_at cX0_at 2 (some .int) 1 := ⟨wq_18_5, wq_5_12, wq_5_13, wq_2_0, wq_5_14, ⟨by decide, by decide, by decide +kernel⟩⟩
theorem cw_RL_99 : CWV RL 99 yX4_shelf cX4_shelf 3 (some .int) 2 := ⟨wq_18_6, wq_18_7, wq_18_8, wq_1_5, wq_18_9, ⟨by decide, by decide, by decide +kernel⟩⟩
theorem cw_RL_45 : CWV RL 45 yX3_ghost cX3_ghost 3 (some .int) 2 := ⟨wq_18_13, wq_18_14, wq_18_15, wq_1_2, wq_18_16, ⟨by decide, by decide, by decide +kernel⟩⟩
theorem cw_RX3_109 : CWV RX3 109 yX1_listOf cX1_listOf 2 (some (.object "PinnedPantry$Row")) 1 := ⟨wq_18_17, wq_7_15, wq_7_16, wq_1_15, wq_7_17, ⟨by decide, by decide, by decide +kernel⟩⟩
theorem cw_RL_102 : CWV RL 102 yX4_ghost cX4_ghost 3 (some .int) 2 := ⟨wq_18_18, wq_18_19, wq_18_20, wq_1_5, wq_18_21, ⟨by decide, by decide, by decide +kernel⟩⟩
theorem cw_RL_48 : CWV RL 48 yX3_count cX3_count 2 (some .int) 1 := ⟨wq_19_1, wq_19_2, wq_19_3, wq_1_2, wq_19_4, ⟨by decide, by decide, by decide +kernel⟩⟩
theorem cw_RX3_114 : CWV RX3 114 yX1_tally cX1_tally 2 (some .int) 1 := ⟨wq_19_5, wq_19_6, wq_19_7, wq_1_15, wq_19_8, ⟨by decide, by decide, by decide +kernel⟩⟩
theorem cw_RL_105 : CWV RL 105 yX4_count cX4_count 2 (some .int) 1 := ⟨wq_19_9, wq_19_10, wq_19_11, wq_1_5, wq_19_12, ⟨by decide, by decide, by decide +kernel⟩⟩
theorem cw_RX4_126 : CWV RX4 126 yX4_counted cX4_counted 2 (some .int) 1 := ⟨wq_19_13, wq_19_14, wq_19_15, wq_1_5, wq_19_16, ⟨by decide, by decide, by decide +kernel⟩⟩
theorem cw_RL_106 : CWV RL 106 yX3_next cX3_next 1 (some .int) 0 := ⟨wq_19_17, wq_19_18, wq_19_19, wq_1_2, wq_19_20, ⟨by decide, by decide, by decide +kernel⟩⟩
theorem cw_RX3_117 : CWV RX3 117 yX1_become cX1_become 2 none 1 := ⟨wq_19_21, wq_19_22, wq_19_23, wq_1_15, wq_20_0, ⟨by decide, by decide, by decide +kernel⟩⟩
theorem cw_RX1_44 : CWV RX1 44 yX0_become cX0_become 3 none 1 := ⟨wq_20_1, wq_20_2, wq_20_3, wq_2_0, wq_20_4, ⟨by decide, by decide, by decide +kernel⟩⟩
theorem cw_RX1_48 : CWV RX1 48 yX2_become cX2_become 3 none 1 := ⟨wq_20_5, wq_20_6, wq_20_7, wq_2_7, wq_20_8, ⟨by decide, by decide, by decide +kernel⟩⟩
theorem cw_RX3_121 : CWV RX3 121 yX1_sweep cX1_sweep 5 (some .int) 0 := ⟨wq_20_9, wq_6_21, wq_6_22, wq_1_15, wq_6_23, ⟨by decide, by decide, by decide +kernel⟩⟩
theorem cw_RL_109 : CWV RL 109 yX4_next cX4_next 3 (some .int) 0 := ⟨wq_20_10, wq_20_11, wq_20_12, wq_1_5, wq_20_13, ⟨by decide, by decide, by decide +kernel⟩⟩
theorem cw_RX4_134 : CWV RX4 134 yX4_kept cX4_kept 1 (some (.array (.array .int))) 0 := ⟨wq_20_14, wq_20_15, wq_20_16, wq_1_5, wq_20_17, ⟨by decide, by decide, by decide +kernel⟩⟩
theorem cw_RX4_138 : CWV RX4 138 yX4_bringBack cX4_bringBack 2 none 1 := ⟨wq_21_0, wq_21_1, wq_21_2, wq_1_5, wq_21_3, ⟨by decide, by decide, by decide +kernel⟩⟩
theorem cw_RL_51 : CWV RL 51 yX3_would cX3_would 2 (some .int) 1 := ⟨wq_21_7, wq_21_8, wq_21_9, wq_1_2, wq_21_10, ⟨by decide, by decide, by decide +kernel⟩⟩
theorem cw_RX3_124 : CWV RX3 124 yX1_forecast cX1_forecast 2 (some .int) 1 := ⟨wq_21_11, wq_4_8, wq_4_9, wq_1_15, wq_4_10, ⟨by decide, by decide, by decide +kernel⟩⟩
theorem cw_RL_112 : CWV RL 112 yX4_would cX4_would 2 (some .int) 1 := ⟨wq_21_12, wq_21_13, wq_21_14, wq_1_5, wq_21_15, ⟨by decide, by decide, by decide +kernel⟩⟩
theorem cw_RX4_142 : CWV RX4 142 yX4_told cX4_told 2 (some .int) 1 := ⟨wq_21_16, wq_21_17, wq_21_18, wq_1_5, wq_21_19, ⟨by decide, by decide, by decide +kernel⟩⟩
theorem cw_RL_54 : CWV RL 54 yX3_trial cX3_trial 4 (some .int) 3 := ⟨wq_21_23, wq_22_0, wq_22_1, wq_1_2, wq_22_2, ⟨by decide, by decide, by decide +kernel⟩⟩
theorem cw_RL_115 : CWV RL 115 yX4_trial cX4_trial 6 (some .int) 3 := ⟨wq_22_3, wq_22_4, wq_22_5, wq_1_5, wq_22_6, ⟨by decide, by decide, by decide +kernel⟩⟩
theorem cw_RL_57 : CWV RL 57 yX3_advise cX3_advise 8 (some .int) 3 := ⟨wq_22_10, wq_22_11, wq_22_12, wq_1_2, wq_22_13, ⟨by decide, by decide, by decide +kernel⟩⟩
theorem cw_RL_118 : CWV RL 118 yX4_advise cX4_advise 9 (some .int) 3 := ⟨wq_22_15, wq_22_16, wq_22_17, wq_1_5, wq_22_18, ⟨by decide, by decide, by decide +kernel⟩⟩
theorem cw_RL_119 : CWV RL 119 yX3_mean cX3_mean 2 (some .double) 0 := ⟨wq_22_19, wq_22_20, wq_22_21, wq_1_2, wq_22_22, ⟨by decide, by decide, by decide +kernel⟩⟩
theorem cw_RX3_132 : CWV RX3 132 yX1_jars cX1_jars 1 (some .int) 0 := ⟨wq_22_23, wq_5_0, wq_5_1, wq_1_15, wq_5_2, ⟨by decide, by decide, by decide +kernel⟩⟩
theorem cw_RX3_135 : CWV RX3 135 yX1_fetchesOfAll cX1_fetchesOfAll 3 (some .int) 0 := ⟨wq_23_0, wq_23_1, wq_23_2, wq_1_15, wq_23_3, ⟨by decide, by decide, by decide +kernel⟩⟩
theorem cw_RL_123 : CWV RL 123 yX4_mean cX4_mean 3 (some .double) 0 := ⟨wq_23_4, wq_23_5, wq_23_6, wq_1_5, wq_23_7, ⟨by decide, by decide, by decide +kernel⟩⟩
theorem cw_RL_124 : CWV RL 124 yX3_digest cX3_digest 4 (some .long) 0 := ⟨wq_23_8, wq_23_9, wq_23_10, wq_1_2, wq_23_11, ⟨by decide, by decide, by decide +kernel⟩⟩
theorem cw_RX3_142 : CWV RX3 142 yX1_digestJars cX1_digestJars 8 (some .long) 2 := ⟨wq_23_14, wq_23_15, wq_23_16, wq_1_15, wq_23_17, ⟨by decide, by decide, by decide +kernel⟩⟩
theorem cw_RX3_146 : CWV RX3 146 yX0_digestKinds cX0_digestKinds 6 (some .long) 1 := ⟨wq_23_19, wq_23_20, wq_23_21, wq_2_0, wq_23_22, ⟨by decide, by decide, by decide +kernel⟩⟩
theorem cw_RX0_29 : CWV RX0 29 yX0_at cX0_at 2 (some .int) 1 := ⟨wq_24_0, wq_5_12, wq_5_13, wq_2_0, wq_5_14, ⟨by decide, by decide, by decide +kernel⟩⟩
theorem cw_RL_128 : CWV RL 128 yX4_digest cX4_digest 7 (some .long) 0 := ⟨wq_24_1, wq_24_2, wq_24_3, wq_1_5, wq_24_4, ⟨by decide, by decide, by decide +kernel⟩⟩
end
section
/-! THE JUDGEMENT: a method's walk over a world in lists, heap and locals hidden (KJ); its constants in one tuple (KX). -/
abbrev KX : Type := Program × Env × State × MethodId × Array Value × List Frame × Method × Code × (State → Prop) × (Nat → Prop)
abbrev kp (G : KX) : Program := G.1
abbrev ke (G : KX) : Env := G.2.1
abbrev ks (G : KX) : State := G.2.2.1
abbrev km (G : KX) : MethodId := G.2.2.2.1
abbrev ka (G : KX) : Array Value := G.2.2.2.2.1
abbrev kb (G : KX) : List Frame := G.2.2.2.2.2.1
abbrev kme (G : KX) : Method := G.2.2.2.2.2.2.1
abbrev kc (G : KX) : Code := G.2.2.2.2.2.2.2.1
abbrev kQ (G : KX) : State → Prop := G.2.2.2.2.2.2.2.2.1
abbrev kA (G : KX) : Nat → Prop := G.2.2.2.2.2.2.2.2.2
/-- the arrays' classes stand in D behind the objects' -/
abbrev kty (D : va_G) : List (ClassId × FieldType) := [(D.1 5, .int), (D.1 6, .long), (D.1 7, .array .int)]
/-- what the tables say, beside the words -/
def KT (D : va_G) (U : State) : Prop := va_K D vwCl (kty D) U ∧ va_Nw (.fieldLinkNest RX1 70 RX0 "length" "I" RX3) U ∧ va_Nw (.fieldLinkNest RX3 45 RX1 "pins" "LPinnedPantry$Table;" RX3) U ∧ va_Nw (.fieldLinkNest RX3 78 RX1 "places" "I" RX3) U ∧ va_Nw (.fieldLinkNest RX3 87 RX1 "goal" "I" RX3) U ∧ va_Nw (.castable "[I" "java/lang/Cloneable") U
theorem KT.warm {D : va_G} {s U : State} (hW : s.WarmedH U.vm) (h : KT D s) : KT D U := ⟨va_K.moved hW.alike h.1, va_Nw.warmF hW h.2.1, va_Nw.warmF hW h.2.2.1, va_Nw.warmF hW h.2.2.2.1, va_Nw.warmF hW h.2.2.2.2.1, va_Nw.warmC hW h.2.2.2.2.2⟩
theorem KT.same {D : va_G} {u U : State} (h : u.vm = U.vm) (hZ : KT D u) : KT D U := ⟨va_K.moved (by rw [h]; exact Vm.Alike.refl U.vm) hZ.1, va_Nw.same rfl h hZ.2.1, va_Nw.same rfl h hZ.2.2.1, va_Nw.same rfl h hZ.2.2.2.1, va_Nw.same rfl h hZ.2.2.2.2.1, va_Nw.same rfl h hZ.2.2.2.2.2⟩
def KJ (l : Launch) (G : KX) (D : va_G) (R : Room) (nL ce sl : Nat) (ws : va_W) (lv : List (Nat × Value)) (pc : Nat) (st : List Value) : Prop :=
  ∀ (H : Heap) (locs : List Loc) (ls : Array Slot), va_P D vwCl ws H → va_D (kA G) ws → va_S (kA G) (ks G).heap H locs → lv_has ls nL lv → W (kp G) l (ke G) R (ks G) (km G) (ka G) (kb G) (kme G) (kc G) H locs ce sl (kQ G) (F0 (km G) pc ls st)
def CX (G : KX) (D : va_G) (cc : ByteArray) (own : String) (nL : Nat) : Prop :=
  (kp G).tables.exec = Jvm.exec ∧ (kc G).code = cc ∧ (kc G).maxLocals = nL ∧ (ks G).vm.findClass own = some (km G).cls ∧ (∀ w ∈ wsL_law, w.before (ka G) (ks G) = true) ∧ KT D (ks G) ∧ ∀ q : Nat, (ks G).heap.size ≤ q → kA G q
section CXs
variable {G : KX} {D : va_G} {cc : ByteArray} {own : String} {nL : Nat}
theorem CX.ex (h : CX G D cc own nL) : (kp G).tables.exec = Jvm.exec := h.1
theorem CX.cd (h : CX G D cc own nL) : (kc G).code = cc := h.2.1
theorem CX.ml (h : CX G D cc own nL) : (kc G).maxLocals = nL := h.2.2.1
theorem CX.on (h : CX G D cc own nL) : (ks G).vm.findClass own = some (km G).cls := h.2.2.2.1
theorem CX.wd (h : CX G D cc own nL) : ∀ w ∈ wsL_law, w.before (ka G) (ks G) = true := h.2.2.2.2.1
theorem CX.kt (h : CX G D cc own nL) : KT D (ks G) := h.2.2.2.2.2.1
theorem CX.kk (h : CX G D cc own nL) : va_K D vwCl (kty D) (ks G) := h.2.2.2.2.2.1.1
theorem CX.nw (h : CX G D cc own nL) : ∀ q : Nat, (ks G).heap.size ≤ q → kA G q := h.2.2.2.2.2.2
theorem CX.fix (h : CX G D cc own nL) : CallFix (kp G) (km G) (kc G) cc nL (ks G) (ka G) wsL_law own := ⟨h.ex, h.cd, h.ml, h.on, h.wd⟩
end CXs
/-- a local by its number -/
def lvg : List (Nat × Value) → Nat → Option Value
  | [], _ => none
  | (a, v) :: l, i => match Nat.beq a i with
    | true => some v
    | false => lvg l i
theorem lvg_at {ls : Array Slot} {n : Nat} : ∀ {lv : List (Nat × Value)} {i : Nat} {v : Value}, lv_has ls n lv → lvg lv i = some v → ls[i]? = some (.val v)
  | [], _, _, _, h => by cases h
  | (a, w) :: l, i, v, hl, h => by
    unfold lvg at h
    cases hb : Nat.beq a i with
    | true =>
      rw [hb] at h
      have e : a = i := Nat.eq_of_beq_eq_true hb
      subst e
      cases h
      exact hl.2.2 (a, w) List.mem_cons_self
    | false =>
      rw [hb] at h
      exact lvg_at ⟨hl.1, hl.2.1, fun q hq => hl.2.2 q (List.mem_cons_of_mem _ hq)⟩ h
section KS
variable {l : Launch} {G : KX} {D : va_G} {R : Room} {cc : ByteArray} {own : String} {nL ce sl : Nat} {ws : va_W} {lv lv' : List (Nat × Value)} {st : List Value}
theorem KJ.eqs {pc : Nat} {st' : List Value} (e : st = st') (k : KJ l G D R nL ce sl ws lv pc st') : KJ l G D R nL ce sl ws lv pc st := by rw [e]; exact k
theorem KJ.eqw {pc : Nat} {ws' : va_W} (e : ws = ws') (k : KJ l G D R nL ce sl ws' lv pc st) : KJ l G D R nL ce sl ws lv pc st := by rw [e]; exact k
theorem KJ.topi {pc : Nat} {x y : Int32} (e : x = y) (k : KJ l G D R nL ce sl ws lv pc (.int y :: st)) : KJ l G D R nL ce sl ws lv pc (.int x :: st) := by rw [e]; exact k
theorem KJ.topl {pc : Nat} {x y : Int64} (e : x = y) (k : KJ l G D R nL ce sl ws lv pc (.long y :: st)) : KJ l G D R nL ce sl ws lv pc (.long x :: st) := by rw [e]; exact k
theorem KJ.wide {pc ce' sl' : Nat} (h1 : ce ≤ ce') (h2 : sl ≤ sl') (k : KJ l G D R nL ce' sl' ws lv pc st) : KJ l G D R nL ce sl ws lv pc st := fun H locs ls hP hD hS hl => W.widen h1 h2 (k H locs ls hP hD hS hl)
/-- fewer locals, in any order, by their numbers -/
theorem KJ.lvs {pc : Nat} (h : lv'.all (fun q => match lvg lv q.1 with | some _ => true | none => false) = true) (h2 : ∀ q ∈ lv', lvg lv q.1 = some q.2) (k : KJ l G D R nL ce sl ws lv' pc st) : KJ l G D R nL ce sl ws lv pc st := fun H locs ls hP hD hS hl => k H locs ls hP hD hS ⟨hl.1, hl.2.1, fun q hq => lvg_at hl (h2 q hq)⟩
theorem KJ.lvp {pc : Nat} (ks : List Nat) (h : lv_pick lv ks = lv') (k : KJ l G D R nL ce sl ws lv' pc st) : KJ l G D R nL ce sl ws lv pc st := fun H locs ls hP hD hS hl => k H locs ls hP hD hS (lv_sub hl ks h)
/-- a part of the world, in any order -/
theorem KJ.sub {pc : Nat} {ws' : va_W} (is : List Nat) (hn : va_nd is = true) (h1 : is.filterMap (fun i => ws[i]?) = ws') (h2 : is.map (fun i => ws[i]?) = ws'.map some) (k : KJ l G D R nL ce sl ws' lv pc st) : KJ l G D R nL ce sl ws lv pc st := fun H locs ls hP hD hS hl => k H locs ls (hP.sub is h1) (hD.sub is hn h2) hS hl

theorem k_iconst (hC : CX G D cc own nL) (pc : Nat) {n : Int} (hdg : decode cc pc = .ok (.iconst n, 1)) (v : Int32) (hv : Int32.ofInt n = v) (k : KJ l G D R nL ce sl ws lv (pc + 1) (.int v :: st)) : KJ l G D R nL ce sl ws lv pc (st) := fun H locs ls hP hD hS hl => lv_iconst hC.ex hC.cd hdg hv (k H locs ls hP hD hS hl)
theorem k_bipush (hC : CX G D cc own nL) (pc : Nat) {n : Int} (hdg : decode cc pc = .ok (.bipush n, 2)) (v : Int32) (hv : (Int8.ofInt n).toInt32 = v) (k : KJ l G D R nL ce sl ws lv (pc + 2) (.int v :: st)) : KJ l G D R nL ce sl ws lv pc (st) := fun H locs ls hP hD hS hl => lv_bipush hC.ex hC.cd hdg hv (k H locs ls hP hD hS hl)
theorem k_sipush (hC : CX G D cc own nL) (pc : Nat) {n : Int} (hdg : decode cc pc = .ok (.sipush n, 3)) (v : Int32) (hv : (Int16.ofInt n).toInt32 = v) (k : KJ l G D R nL ce sl ws lv (pc + 3) (.int v :: st)) : KJ l G D R nL ce sl ws lv pc (st) := fun H locs ls hP hD hS hl => lv_sipush hC.ex hC.cd hdg hv (k H locs ls hP hD hS hl)
theorem k_iload_n (hC : CX G D cc own nL) (pc : Nat) {k0 : Fin 4} (hdg : decode cc pc = .ok (.iload_n k0, 1)) {x : Int32} (hg : lvg lv (k0 : Nat) = some (.int x)) (k : KJ l G D R nL ce sl ws lv (pc + 1) (.int x :: st)) : KJ l G D R nL ce sl ws lv pc (st) := fun H locs ls hP hD hS hl => lv_iload_n hC.ex hC.cd hdg rfl (lvg_at hl hg) (k H locs ls hP hD hS hl)
theorem k_iload (hC : CX G D cc own nL) (pc : Nat) {i0 : Nat} (hdg : decode cc pc = .ok (.iload i0, 2)) {x : Int32} (hg : lvg lv i0 = some (.int x)) (k : KJ l G D R nL ce sl ws lv (pc + 2) (.int x :: st)) : KJ l G D R nL ce sl ws lv pc (st) := fun H locs ls hP hD hS hl => lv_iload hC.ex hC.cd hdg (lvg_at hl hg) (k H locs ls hP hD hS hl)
theorem k_lload_n (hC : CX G D cc own nL) (pc : Nat) {k0 : Fin 4} (hdg : decode cc pc = .ok (.lload_n k0, 1)) {x : Int64} (hg : lvg lv (k0 : Nat) = some (.long x)) (k : KJ l G D R nL ce sl ws lv (pc + 1) (.long x :: st)) : KJ l G D R nL ce sl ws lv pc (st) := fun H locs ls hP hD hS hl => lv_lload_n hC.ex hC.cd hdg rfl (lvg_at hl hg) (k H locs ls hP hD hS hl)
theorem k_lload (hC : CX G D cc own nL) (pc : Nat) {i0 : Nat} (hdg : decode cc pc = .ok (.lload i0, 2)) {x : Int64} (hg : lvg lv i0 = some (.long x)) (k : KJ l G D R nL ce sl ws lv (pc + 2) (.long x :: st)) : KJ l G D R nL ce sl ws lv pc (st) := fun H locs ls hP hD hS hl => lv_lload hC.ex hC.cd hdg (lvg_at hl hg) (k H locs ls hP hD hS hl)
theorem k_aload_n (hC : CX G D cc own nL) (pc : Nat) {k0 : Fin 4} (hdg : decode cc pc = .ok (.aload_n k0, 1)) {x : Nat} (hg : lvg lv (k0 : Nat) = some (.ref x)) (k : KJ l G D R nL ce sl ws lv (pc + 1) (.ref x :: st)) : KJ l G D R nL ce sl ws lv pc (st) := fun H locs ls hP hD hS hl => lv_aload_n hC.ex hC.cd hdg rfl (lvg_at hl hg) (k H locs ls hP hD hS hl)
theorem k_aload (hC : CX G D cc own nL) (pc : Nat) {i0 : Nat} (hdg : decode cc pc = .ok (.aload i0, 2)) {x : Nat} (hg : lvg lv i0 = some (.ref x)) (k : KJ l G D R nL ce sl ws lv (pc + 2) (.ref x :: st)) : KJ l G D R nL ce sl ws lv pc (st) := fun H locs ls hP hD hS hl => lv_aload hC.ex hC.cd hdg (lvg_at hl hg) (k H locs ls hP hD hS hl)
theorem k_dload_n (hC : CX G D cc own nL) (pc : Nat) {k0 : Fin 4} (hdg : decode cc pc = .ok (.dload_n k0, 1)) {x : UInt64} (hg : lvg lv (k0 : Nat) = some (.double x)) (k : KJ l G D R nL ce sl ws lv (pc + 1) (.double x :: st)) : KJ l G D R nL ce sl ws lv pc (st) := fun H locs ls hP hD hS hl => lv_dload_n hC.ex hC.cd hdg rfl (lvg_at hl hg) (k H locs ls hP hD hS hl)
theorem k_dload (hC : CX G D cc own nL) (pc : Nat) {i0 : Nat} (hdg : decode cc pc = .ok (.dload i0, 2)) {x : UInt64} (hg : lvg lv i0 = some (.double x)) (k : KJ l G D R nL ce sl ws lv (pc + 2) (.double x :: st)) : KJ l G D R nL ce sl ws lv pc (st) := fun H locs ls hP hD hS hl => lv_dload hC.ex hC.cd hdg (lvg_at hl hg) (k H locs ls hP hD hS hl)
theorem k_istore_n (hC : CX G D cc own nL) (pc : Nat) {k0 : Fin 4} (i1 : Nat) {x : Int32} (lv' : List (Nat × Value)) (hdg : decode cc pc = .ok (.istore_n k0, 1)) (hi : (k0 : Nat) = i1) (hn : i1 < nL) (he : (i1, Value.int x) :: lv.filter (fun q => !(q.1 == i1) && !(q.1 + 1 == i1 && q.2.category == 2)) = lv') (k : KJ l G D R nL ce sl ws lv' (pc + 1) st) : KJ l G D R nL ce sl ws lv pc (.int x :: st) := fun H locs ls hP hD hS hl => lv_istore_n hC.ex hC.cd hdg hi hl hn he (fun ls' hl' => k H locs ls' hP hD hS hl')
theorem k_istore (hC : CX G D cc own nL) (pc : Nat) (i1 : Nat) {x : Int32} (lv' : List (Nat × Value)) (hdg : decode cc pc = .ok (.istore i1, 2)) (hn : i1 < nL) (he : (i1, Value.int x) :: lv.filter (fun q => !(q.1 == i1) && !(q.1 + 1 == i1 && q.2.category == 2)) = lv') (k : KJ l G D R nL ce sl ws lv' (pc + 2) st) : KJ l G D R nL ce sl ws lv pc (.int x :: st) := fun H locs ls hP hD hS hl => lv_istore hC.ex hC.cd hdg hl hn he (fun ls' hl' => k H locs ls' hP hD hS hl')
theorem k_astore_n (hC : CX G D cc own nL) (pc : Nat) {k0 : Fin 4} (i1 : Nat) {x : Nat} (lv' : List (Nat × Value)) (hdg : decode cc pc = .ok (.astore_n k0, 1)) (hi : (k0 : Nat) = i1) (hn : i1 < nL) (he : (i1, Value.ref x) :: lv.filter (fun q => !(q.1 == i1) && !(q.1 + 1 == i1 && q.2.category == 2)) = lv') (k : KJ l G D R nL ce sl ws lv' (pc + 1) st) : KJ l G D R nL ce sl ws lv pc (.ref x :: st) := fun H locs ls hP hD hS hl => lv_astore_n hC.ex hC.cd hdg hi hl hn he (fun ls' hl' => k H locs ls' hP hD hS hl')
theorem k_astore (hC : CX G D cc own nL) (pc : Nat) (i1 : Nat) {x : Nat} (lv' : List (Nat × Value)) (hdg : decode cc pc = .ok (.astore i1, 2)) (hn : i1 < nL) (he : (i1, Value.ref x) :: lv.filter (fun q => !(q.1 == i1) && !(q.1 + 1 == i1 && q.2.category == 2)) = lv') (k : KJ l G D R nL ce sl ws lv' (pc + 2) st) : KJ l G D R nL ce sl ws lv pc (.ref x :: st) := fun H locs ls hP hD hS hl => lv_astore hC.ex hC.cd hdg hl hn he (fun ls' hl' => k H locs ls' hP hD hS hl')
theorem k_lstore_n (hC : CX G D cc own nL) (pc : Nat) {k0 : Fin 4} (i1 : Nat) {x : Int64} (lv' : List (Nat × Value)) (hdg : decode cc pc = .ok (.lstore_n k0, 1)) (hi : (k0 : Nat) = i1) (hn : i1 + 1 < nL) (he : (i1, Value.long x) :: lv.filter (fun q => !(q.1 == i1) && (!(q.1 == i1 + 1) && !(q.1 + 1 == i1 && q.2.category == 2))) = lv') (k : KJ l G D R nL ce sl ws lv' (pc + 1) st) : KJ l G D R nL ce sl ws lv pc (.long x :: st) := fun H locs ls hP hD hS hl => lv_lstore_n hC.ex hC.cd hdg hi hl hn he (fun ls' hl' => k H locs ls' hP hD hS hl')
theorem k_lstore (hC : CX G D cc own nL) (pc : Nat) (i1 : Nat) {x : Int64} (lv' : List (Nat × Value)) (hdg : decode cc pc = .ok (.lstore i1, 2)) (hn : i1 + 1 < nL) (he : (i1, Value.long x) :: lv.filter (fun q => !(q.1 == i1) && (!(q.1 == i1 + 1) && !(q.1 + 1 == i1 && q.2.category == 2))) = lv') (k : KJ l G D R nL ce sl ws lv' (pc + 2) st) : KJ l G D R nL ce sl ws lv pc (.long x :: st) := fun H locs ls hP hD hS hl => lv_lstore hC.ex hC.cd hdg hl hn he (fun ls' hl' => k H locs ls' hP hD hS hl')
theorem k_dstore_n (hC : CX G D cc own nL) (pc : Nat) {k0 : Fin 4} (i1 : Nat) {x : UInt64} (lv' : List (Nat × Value)) (hdg : decode cc pc = .ok (.dstore_n k0, 1)) (hi : (k0 : Nat) = i1) (hn : i1 + 1 < nL) (he : (i1, Value.double x) :: lv.filter (fun q => !(q.1 == i1) && (!(q.1 == i1 + 1) && !(q.1 + 1 == i1 && q.2.category == 2))) = lv') (k : KJ l G D R nL ce sl ws lv' (pc + 1) st) : KJ l G D R nL ce sl ws lv pc (.double x :: st) := fun H locs ls hP hD hS hl => lv_dstore_n hC.ex hC.cd hdg hi hl hn he (fun ls' hl' => k H locs ls' hP hD hS hl')
theorem k_dstore (hC : CX G D cc own nL) (pc : Nat) (i1 : Nat) {x : UInt64} (lv' : List (Nat × Value)) (hdg : decode cc pc = .ok (.dstore i1, 2)) (hn : i1 + 1 < nL) (he : (i1, Value.double x) :: lv.filter (fun q => !(q.1 == i1) && (!(q.1 == i1 + 1) && !(q.1 + 1 == i1 && q.2.category == 2))) = lv') (k : KJ l G D R nL ce sl ws lv' (pc + 2) st) : KJ l G D R nL ce sl ws lv pc (.double x :: st) := fun H locs ls hP hD hS hl => lv_dstore hC.ex hC.cd hdg hl hn he (fun ls' hl' => k H locs ls' hP hD hS hl')
theorem k_iinc (hC : CX G D cc own nL) (pc : Nat) {i1 : Nat} {n : Int} (k0 : Nat) {x : Int32} (v : Int32) (lv' : List (Nat × Value)) (hdg : decode cc pc = .ok (.iinc i1 n, 3)) (hk : lv[k0]? = some (i1, .int x)) (hv : x + Int32.ofInt n = v) (hn : i1 < nL) (he : (i1, Value.int v) :: lv.filter (fun q => !(q.1 == i1) && !(q.1 + 1 == i1 && q.2.category == 2)) = lv') (k : KJ l G D R nL ce sl ws lv' (pc + 3) st) : KJ l G D R nL ce sl ws lv pc st := fun H locs ls hP hD hS hl => lv_iinc hC.ex hC.cd hdg hl hk hv hn he (fun ls' hl' => k H locs ls' hP hD hS hl')
theorem k_iadd (hC : CX G D cc own nL) (pc : Nat) {x y : Int32} (hdg : decode cc pc = .ok (.iadd, 1)) (k : KJ l G D R nL ce sl ws lv (pc + 1) (.int (x + y) :: st)) : KJ l G D R nL ce sl ws lv pc (.int y :: .int x :: st) := fun H locs ls hP hD hS hl => lv_iadd hC.ex hC.cd hdg (k H locs ls hP hD hS hl)
theorem k_isub (hC : CX G D cc own nL) (pc : Nat) {x y : Int32} (hdg : decode cc pc = .ok (.isub, 1)) (k : KJ l G D R nL ce sl ws lv (pc + 1) (.int (x - y) :: st)) : KJ l G D R nL ce sl ws lv pc (.int y :: .int x :: st) := fun H locs ls hP hD hS hl => lv_isub hC.ex hC.cd hdg (k H locs ls hP hD hS hl)
theorem k_imul (hC : CX G D cc own nL) (pc : Nat) {x y : Int32} (hdg : decode cc pc = .ok (.imul, 1)) (k : KJ l G D R nL ce sl ws lv (pc + 1) (.int (x * y) :: st)) : KJ l G D R nL ce sl ws lv pc (.int y :: .int x :: st) := fun H locs ls hP hD hS hl => lv_imul hC.ex hC.cd hdg (k H locs ls hP hD hS hl)
theorem k_iand (hC : CX G D cc own nL) (pc : Nat) {x y : Int32} (hdg : decode cc pc = .ok (.iand, 1)) (k : KJ l G D R nL ce sl ws lv (pc + 1) (.int (x &&& y) :: st)) : KJ l G D R nL ce sl ws lv pc (.int y :: .int x :: st) := fun H locs ls hP hD hS hl => lv_iand hC.ex hC.cd hdg (k H locs ls hP hD hS hl)
theorem k_idiv (hC : CX G D cc own nL) (pc : Nat) {x y : Int32} (hdg : decode cc pc = .ok (.idiv, 1)) (hne : ¬ y = 0) (k : KJ l G D R nL ce sl ws lv (pc + 1) (.int (x / y) :: st)) : KJ l G D R nL ce sl ws lv pc (.int y :: .int x :: st) := fun H locs ls hP hD hS hl => lv_idiv hC.ex hC.cd hdg hne (k H locs ls hP hD hS hl)
theorem k_irem (hC : CX G D cc own nL) (pc : Nat) {x y : Int32} (hdg : decode cc pc = .ok (.irem, 1)) (hne : ¬ y = 0) (k : KJ l G D R nL ce sl ws lv (pc + 1) (.int (x - x / y * y) :: st)) : KJ l G D R nL ce sl ws lv pc (.int y :: .int x :: st) := fun H locs ls hP hD hS hl => lv_irem hC.ex hC.cd hdg hne (k H locs ls hP hD hS hl)
theorem k_ladd (hC : CX G D cc own nL) (pc : Nat) {x y : Int64} (hdg : decode cc pc = .ok (.ladd, 1)) (k : KJ l G D R nL ce sl ws lv (pc + 1) (.long (x + y) :: st)) : KJ l G D R nL ce sl ws lv pc (.long y :: .long x :: st) := fun H locs ls hP hD hS hl => lv_ladd hC.ex hC.cd hdg (k H locs ls hP hD hS hl)
theorem k_lmul (hC : CX G D cc own nL) (pc : Nat) {x y : Int64} (hdg : decode cc pc = .ok (.lmul, 1)) (k : KJ l G D R nL ce sl ws lv (pc + 1) (.long (x * y) :: st)) : KJ l G D R nL ce sl ws lv pc (.long y :: .long x :: st) := fun H locs ls hP hD hS hl => lv_lmul hC.ex hC.cd hdg (k H locs ls hP hD hS hl)
theorem k_lcmp (hC : CX G D cc own nL) (pc : Nat) {x y : Int64} (hdg : decode cc pc = .ok (.lcmp, 1)) (k : KJ l G D R nL ce sl ws lv (pc + 1) (.int (lg_cmp x y) :: st)) : KJ l G D R nL ce sl ws lv pc (.long y :: .long x :: st) := fun H locs ls hP hD hS hl => W.lcmp hC.ex hC.cd hdg (k H locs ls hP hD hS hl)
theorem k_i2l (hC : CX G D cc own nL) (pc : Nat) {x : Int32} (hdg : decode cc pc = .ok (.i2l, 1)) (v : Int64) (hv : x.toInt64 = v) (k : KJ l G D R nL ce sl ws lv (pc + 1) (.long v :: st)) : KJ l G D R nL ce sl ws lv pc (.int x :: st) := fun H locs ls hP hD hS hl => lv_i2l hC.ex hC.cd hdg hv (k H locs ls hP hD hS hl)
theorem k_i2d (hC : CX G D cc own nL) (pc : Nat) {x : Int32} (hdg : decode cc pc = .ok (.i2d, 1)) (k : KJ l G D R nL ce sl ws lv (pc + 1) (.double (FP.i2d x) :: st)) : KJ l G D R nL ce sl ws lv pc (.int x :: st) := fun H locs ls hP hD hS hl => lv_i2d hC.ex hC.cd hdg (k H locs ls hP hD hS hl)
theorem k_dcmp (hC : CX G D cc own nL) (pc : Nat) {x y : UInt64} {op : CmpOp} (hdg : decode cc pc = .ok (.dcmp op, 1)) (k : KJ l G D R nL ce sl ws lv (pc + 1) (.int (Op.cmpValue (FP.dcmp x y) op) :: st)) : KJ l G D R nL ce sl ws lv pc (.double y :: .double x :: st) := fun H locs ls hP hD hS hl => lv_dcmp hC.ex hC.cd hdg (k H locs ls hP hD hS hl)
theorem k_ddiv (hC : CX G D cc own nL) (pc : Nat) {x y : UInt64} (hdg : decode cc pc = .ok (.ddiv, 1)) (hne : vf_n64 (FP.ddiv x y)) (k : KJ l G D R nL ce sl ws lv (pc + 1) (.double (FP.ddiv x y) :: st)) : KJ l G D R nL ce sl ws lv pc (.double y :: .double x :: st) := fun H locs ls hP hD hS hl => lv_ddiv hC.ex hC.cd hdg hne (k H locs ls hP hD hS hl)
theorem k_dconst0 (hC : CX G D cc own nL) (pc : Nat) (hdg : decode cc pc = .ok (.dconst 0, 1)) (k : KJ l G D R nL ce sl ws lv (pc + 1) (.double FP.dconst0 :: st)) : KJ l G D R nL ce sl ws lv pc (st) := fun H locs ls hP hD hS hl => lv_dconst0 hC.ex hC.cd hdg (k H locs ls hP hD hS hl)
theorem k_dup (hC : CX G D cc own nL) (pc : Nat) {va : Value} (hdg : decode cc pc = .ok (.dup, 1)) (hva : va.category = 1) (k : KJ l G D R nL ce sl ws lv (pc + 1) (va :: va :: st)) : KJ l G D R nL ce sl ws lv pc (va :: st) := fun H locs ls hP hD hS hl => lv_dup hC.ex hC.cd hdg hva (k H locs ls hP hD hS hl)
theorem k_pop (hC : CX G D cc own nL) (pc : Nat) {va : Value} (hdg : decode cc pc = .ok (.pop, 1)) (hva : va.category = 1) (k : KJ l G D R nL ce sl ws lv (pc + 1) (st)) : KJ l G D R nL ce sl ws lv pc (va :: st) := fun H locs ls hP hD hS hl => lv_pop hC.ex hC.cd hdg hva (k H locs ls hP hD hS hl)
theorem k_dup2 (hC : CX G D cc own nL) (pc : Nat) {va vb : Value} (hdg : decode cc pc = .ok (.dup2, 1)) (hva : va.category = 1) (hvb : vb.category = 1) (k : KJ l G D R nL ce sl ws lv (pc + 1) (va :: vb :: va :: vb :: st)) : KJ l G D R nL ce sl ws lv pc (va :: vb :: st) := fun H locs ls hP hD hS hl => lv_dup2_11 hC.ex hC.cd hdg hva hvb (k H locs ls hP hD hS hl)
theorem k_ldc (hC : CX G D cc own nL) (pc : Nat) {ix : Nat} (v : Int32) (hdg : decode cc pc = .ok (.ldc ix, 2)) (hw : Cond.constant own ix v ∈ wsL_law) (k : KJ l G D R nL ce sl ws lv (pc + 2) (.int v :: st)) : KJ l G D R nL ce sl ws lv pc st := fun H locs ls hP hD hS hl => lv_ldc hC.ex hC.cd hC.on (hC.wd _ hw) hdg (k H locs ls hP hD hS hl)
theorem k_ldc2 (hC : CX G D cc own nL) (pc : Nat) {ix : Nat} (v : Int64) (hdg : decode cc pc = .ok (.ldc2_w ix, 3)) (hw : Cond.constantLong own ix v ∈ wsL_law) (k : KJ l G D R nL ce sl ws lv (pc + 3) (.long v :: st)) : KJ l G D R nL ce sl ws lv pc st := fun H locs ls hP hD hS hl => lv_ldc2 hC.ex hC.cd hC.on (hC.wd _ hw) hdg (k H locs ls hP hD hS hl)
theorem k_goto (hC : CX G D cc own nL) (pc : Nat) {off : Int} (tgt : Nat) (hdg : decode cc pc = .ok (.goto off, 3)) (ht : (pc : Int) + off = (tgt : Int)) (k : KJ l G D R nL ce sl ws lv tgt st) : KJ l G D R nL ce sl ws lv pc st := fun H locs ls hP hD hS hl => lv_goto hC.ex hC.cd hdg ht (k H locs ls hP hD hS hl)
theorem k_if_eq (hC : CX G D cc own nL) (pc : Nat) {x : Int32} {off : Int} (tgt : Nat) (hdg : decode cc pc = .ok (.ifCond .eq off, 3)) (ht : (pc : Int) + off = (tgt : Int)) (kt : x = 0 → KJ l G D R nL ce sl ws lv tgt st) (kf : ¬ x = 0 → KJ l G D R nL ce sl ws lv (pc + 3) st) : KJ l G D R nL ce sl ws lv pc (.int x :: st) := fun H locs ls hP hD hS hl => lv_if_eq hC.ex hC.cd hdg ht (fun h => kt h H locs ls hP hD hS hl) (fun h => kf h H locs ls hP hD hS hl)
theorem k_icmp_eq (hC : CX G D cc own nL) (pc : Nat) {x y : Int32} {off : Int} (tgt : Nat) (hdg : decode cc pc = .ok (.if_icmp .eq off, 3)) (ht : (pc : Int) + off = (tgt : Int)) (kt : x = y → KJ l G D R nL ce sl ws lv tgt st) (kf : ¬ x = y → KJ l G D R nL ce sl ws lv (pc + 3) st) : KJ l G D R nL ce sl ws lv pc (.int y :: .int x :: st) := fun H locs ls hP hD hS hl => lv_icmp_eq hC.ex hC.cd hdg ht (fun h => kt h H locs ls hP hD hS hl) (fun h => kf h H locs ls hP hD hS hl)
theorem k_if_ne (hC : CX G D cc own nL) (pc : Nat) {x : Int32} {off : Int} (tgt : Nat) (hdg : decode cc pc = .ok (.ifCond .ne off, 3)) (ht : (pc : Int) + off = (tgt : Int)) (kt : ¬ x = 0 → KJ l G D R nL ce sl ws lv tgt st) (kf : x = 0 → KJ l G D R nL ce sl ws lv (pc + 3) st) : KJ l G D R nL ce sl ws lv pc (.int x :: st) := fun H locs ls hP hD hS hl => lv_if_ne hC.ex hC.cd hdg ht (fun h => kt h H locs ls hP hD hS hl) (fun h => kf h H locs ls hP hD hS hl)
theorem k_icmp_ne (hC : CX G D cc own nL) (pc : Nat) {x y : Int32} {off : Int} (tgt : Nat) (hdg : decode cc pc = .ok (.if_icmp .ne off, 3)) (ht : (pc : Int) + off = (tgt : Int)) (kt : ¬ x = y → KJ l G D R nL ce sl ws lv tgt st) (kf : x = y → KJ l G D R nL ce sl ws lv (pc + 3) st) : KJ l G D R nL ce sl ws lv pc (.int y :: .int x :: st) := fun H locs ls hP hD hS hl => lv_icmp_ne hC.ex hC.cd hdg ht (fun h => kt h H locs ls hP hD hS hl) (fun h => kf h H locs ls hP hD hS hl)
theorem k_if_lt (hC : CX G D cc own nL) (pc : Nat) {x : Int32} {off : Int} (tgt : Nat) (hdg : decode cc pc = .ok (.ifCond .lt off, 3)) (ht : (pc : Int) + off = (tgt : Int)) (kt : x < 0 → KJ l G D R nL ce sl ws lv tgt st) (kf : ¬ x < 0 → KJ l G D R nL ce sl ws lv (pc + 3) st) : KJ l G D R nL ce sl ws lv pc (.int x :: st) := fun H locs ls hP hD hS hl => lv_if_lt hC.ex hC.cd hdg ht (fun h => kt h H locs ls hP hD hS hl) (fun h => kf h H locs ls hP hD hS hl)
theorem k_icmp_lt (hC : CX G D cc own nL) (pc : Nat) {x y : Int32} {off : Int} (tgt : Nat) (hdg : decode cc pc = .ok (.if_icmp .lt off, 3)) (ht : (pc : Int) + off = (tgt : Int)) (kt : x < y → KJ l G D R nL ce sl ws lv tgt st) (kf : ¬ x < y → KJ l G D R nL ce sl ws lv (pc + 3) st) : KJ l G D R nL ce sl ws lv pc (.int y :: .int x :: st) := fun H locs ls hP hD hS hl => lv_icmp_lt hC.ex hC.cd hdg ht (fun h => kt h H locs ls hP hD hS hl) (fun h => kf h H locs ls hP hD hS hl)
theorem k_if_ge (hC : CX G D cc own nL) (pc : Nat) {x : Int32} {off : Int} (tgt : Nat) (hdg : decode cc pc = .ok (.ifCond .ge off, 3)) (ht : (pc : Int) + off = (tgt : Int)) (kt : 0 ≤ x → KJ l G D R nL ce sl ws lv tgt st) (kf : ¬ 0 ≤ x → KJ l G D R nL ce sl ws lv (pc + 3) st) : KJ l G D R nL ce sl ws lv pc (.int x :: st) := fun H locs ls hP hD hS hl => lv_if_ge hC.ex hC.cd hdg ht (fun h => kt h H locs ls hP hD hS hl) (fun h => kf h H locs ls hP hD hS hl)
theorem k_icmp_ge (hC : CX G D cc own nL) (pc : Nat) {x y : Int32} {off : Int} (tgt : Nat) (hdg : decode cc pc = .ok (.if_icmp .ge off, 3)) (ht : (pc : Int) + off = (tgt : Int)) (kt : y ≤ x → KJ l G D R nL ce sl ws lv tgt st) (kf : ¬ y ≤ x → KJ l G D R nL ce sl ws lv (pc + 3) st) : KJ l G D R nL ce sl ws lv pc (.int y :: .int x :: st) := fun H locs ls hP hD hS hl => lv_icmp_ge hC.ex hC.cd hdg ht (fun h => kt h H locs ls hP hD hS hl) (fun h => kf h H locs ls hP hD hS hl)
theorem k_if_gt (hC : CX G D cc own nL) (pc : Nat) {x : Int32} {off : Int} (tgt : Nat) (hdg : decode cc pc = .ok (.ifCond .gt off, 3)) (ht : (pc : Int) + off = (tgt : Int)) (kt : 0 < x → KJ l G D R nL ce sl ws lv tgt st) (kf : ¬ 0 < x → KJ l G D R nL ce sl ws lv (pc + 3) st) : KJ l G D R nL ce sl ws lv pc (.int x :: st) := fun H locs ls hP hD hS hl => lv_if_gt hC.ex hC.cd hdg ht (fun h => kt h H locs ls hP hD hS hl) (fun h => kf h H locs ls hP hD hS hl)
theorem k_icmp_gt (hC : CX G D cc own nL) (pc : Nat) {x y : Int32} {off : Int} (tgt : Nat) (hdg : decode cc pc = .ok (.if_icmp .gt off, 3)) (ht : (pc : Int) + off = (tgt : Int)) (kt : y < x → KJ l G D R nL ce sl ws lv tgt st) (kf : ¬ y < x → KJ l G D R nL ce sl ws lv (pc + 3) st) : KJ l G D R nL ce sl ws lv pc (.int y :: .int x :: st) := fun H locs ls hP hD hS hl => lv_icmp_gt hC.ex hC.cd hdg ht (fun h => kt h H locs ls hP hD hS hl) (fun h => kf h H locs ls hP hD hS hl)
theorem k_if_le (hC : CX G D cc own nL) (pc : Nat) {x : Int32} {off : Int} (tgt : Nat) (hdg : decode cc pc = .ok (.ifCond .le off, 3)) (ht : (pc : Int) + off = (tgt : Int)) (kt : x ≤ 0 → KJ l G D R nL ce sl ws lv tgt st) (kf : ¬ x ≤ 0 → KJ l G D R nL ce sl ws lv (pc + 3) st) : KJ l G D R nL ce sl ws lv pc (.int x :: st) := fun H locs ls hP hD hS hl => lv_if_le hC.ex hC.cd hdg ht (fun h => kt h H locs ls hP hD hS hl) (fun h => kf h H locs ls hP hD hS hl)
theorem k_icmp_le (hC : CX G D cc own nL) (pc : Nat) {x y : Int32} {off : Int} (tgt : Nat) (hdg : decode cc pc = .ok (.if_icmp .le off, 3)) (ht : (pc : Int) + off = (tgt : Int)) (kt : x ≤ y → KJ l G D R nL ce sl ws lv tgt st) (kf : ¬ x ≤ y → KJ l G D R nL ce sl ws lv (pc + 3) st) : KJ l G D R nL ce sl ws lv pc (.int y :: .int x :: st) := fun H locs ls hP hD hS hl => lv_icmp_le hC.ex hC.cd hdg ht (fun h => kt h H locs ls hP hD hS hl) (fun h => kf h H locs ls hP hD hS hl)
theorem k_tableIn (hC : CX G D cc own nL) (pc : Nat) {dflt lo hi : Int} {offs : Array Int} {len : Nat} {x : Int32} {off : Int} (tgt : Nat) (hdg : decode cc pc = .ok (.tableswitch dflt lo hi offs, len)) (h1 : ¬ x.toInt < lo) (h2 : ¬ hi < x.toInt) (ho : offs[(x.toInt - lo).toNat]? = some off) (ht : (pc : Int) + off = (tgt : Int)) (k : KJ l G D R nL ce sl ws lv tgt st) : KJ l G D R nL ce sl ws lv pc (.int x :: st) := fun H locs ls hP hD hS hl => lv_tableIn hC.ex hC.cd hdg h1 h2 ho ht (k H locs ls hP hD hS hl)
theorem k_tableOut (hC : CX G D cc own nL) (pc : Nat) {dflt lo hi : Int} {offs : Array Int} {len : Nat} {x : Int32} (tgt : Nat) (hdg : decode cc pc = .ok (.tableswitch dflt lo hi offs, len)) (h : x.toInt < lo ∨ hi < x.toInt) (ht : (pc : Int) + dflt = (tgt : Int)) (k : KJ l G D R nL ce sl ws lv tgt st) : KJ l G D R nL ce sl ws lv pc (.int x :: st) := fun H locs ls hP hD hS hl => lv_tableOut hC.ex hC.cd hdg h ht (k H locs ls hP hD hS hl)
/-- fields -/
theorem k_getf (hC : CX G D cc own nL) (pc : Nat) {ix ci N a : Nat} {C : String} {T : u_T} (q0 : Nat) {fs : List Value} (k : Nat) {v : Value} (hdg : decode cc pc = .ok (.getfield ix, 3)) (he : ws[q0]? = some (a, .inr (ci, fs))) (hc : vwCl[ci]? = some (C, T, N)) (hin : ∀ w ∈ u_ws C T N, w ∈ wsL_law) (hk : k < N) (hw : Cond.fieldLink own ix (T k).1 (T k).2.1 (T k).2.2.1 ∈ wsL_law) (hv : fs[k]? = some v) (kk : KJ l G D R nL ce sl ws lv (pc + 3) (v :: st)) : KJ l G D R nL ce sl ws lv pc (.ref a :: st) := fun H locs ls hP hD hS hl => va_get hC.ex hC.cd hC.wd hin hC.on hC.kk hP q0 he hc k hk (hC.wd _ hw) (fun _ h => h) hv hdg (kk H locs ls hP hD hS hl)
theorem k_getfN (hC : CX G D cc own nL) (pc : Nat) {ix ci N a : Nat} {C host : String} {T : u_T} (q0 : Nat) {fs : List Value} (k : Nat) {v : Value} (hdg : decode cc pc = .ok (.getfield ix, 3)) (he : ws[q0]? = some (a, .inr (ci, fs))) (hc : vwCl[ci]? = some (C, T, N)) (hin : ∀ w ∈ u_ws C T N, w ∈ wsL_law) (hk : k < N) (hw : va_Nw (Cond.fieldLinkNest own ix (T k).1 (T k).2.1 (T k).2.2.1 host) (ks G)) (hv : fs[k]? = some v) (kk : KJ l G D R nL ce sl ws lv (pc + 3) (v :: st)) : KJ l G D R nL ce sl ws lv pc (.ref a :: st) := fun H locs ls hP hD hS hl => va_getN hC.ex hC.cd hC.wd hin hC.on hC.kk hP q0 he hc k hk (va_Nw.use rfl hw) (fun _ h => h) hv hdg (kk H locs ls hP hD hS hl)
theorem k_putf (hC : CX G D cc own nL) (pc : Nat) {ix ci N a : Nat} {C : String} {T : u_T} {ty0 : Nat → FieldType} (q0 : Nat) {fs : List Value} (k : Nat) {v : Value} (ws' : va_W) (hdg : decode cc pc = .ok (.putfield ix, 3)) (he : ws[q0]? = some (a, .inr (ci, fs))) (hc : vwCl[ci]? = some (C, T, N)) (hin : ∀ w ∈ u_ws C T N, w ∈ wsL_law) (hty : ∀ k, k < N → parseFieldDescriptor (T k).2.2.1 = some (ty0 k)) (hnm : ∀ a, a < N → ∀ b, b < N → a ≠ b → (T a).2.1 ≠ (T b).2.1) (hk : k < N) (hw : Cond.fieldLink own ix (T k).1 (T k).2.1 (T k).2.2.1 ∈ wsL_law) (hfin : (T k).2.2.2 = false) (hn : narrow (ty0 k) v = v) (hfit : fits (ty0 k) v = true) (hl0 : k < fs.length) (hws : ws.set q0 (a, .inr (ci, fs.set k v)) = ws') (kk : KJ l G D R nL ce sl ws' lv (pc + 3) st) : KJ l G D R nL ce sl ws lv pc (v :: .ref a :: st) := fun H locs ls hP hD hS hl => va_put hC.ex hC.cd hC.wd hin ty0 hty hnm hC.on hC.kk hP hD hS q0 he hc k hk (hC.wd _ hw) (fun _ h => h) hfin (hty k hk) hn hfit hl0 hdg (fun H1 locs1 hP1 hD1 hS1 => kk H1 locs1 ls (hws ▸ hP1) (hws ▸ hD1) hS1 hl)
theorem k_putfN (hC : CX G D cc own nL) (pc : Nat) {ix ci N a : Nat} {C host : String} {T : u_T} {ty0 : Nat → FieldType} (q0 : Nat) {fs : List Value} (k : Nat) {v : Value} (ws' : va_W) (hdg : decode cc pc = .ok (.putfield ix, 3)) (he : ws[q0]? = some (a, .inr (ci, fs))) (hc : vwCl[ci]? = some (C, T, N)) (hin : ∀ w ∈ u_ws C T N, w ∈ wsL_law) (hty : ∀ k, k < N → parseFieldDescriptor (T k).2.2.1 = some (ty0 k)) (hnm : ∀ a, a < N → ∀ b, b < N → a ≠ b → (T a).2.1 ≠ (T b).2.1) (hk : k < N) (hw : va_Nw (Cond.fieldLinkNest own ix (T k).1 (T k).2.1 (T k).2.2.1 host) (ks G)) (hfin : (T k).2.2.2 = false) (hn : narrow (ty0 k) v = v) (hfit : fits (ty0 k) v = true) (hl0 : k < fs.length) (hws : ws.set q0 (a, .inr (ci, fs.set k v)) = ws') (kk : KJ l G D R nL ce sl ws' lv (pc + 3) st) : KJ l G D R nL ce sl ws lv pc (v :: .ref a :: st) := fun H locs ls hP hD hS hl => va_putN hC.ex hC.cd hC.wd hin ty0 hty hnm hC.on hC.kk hP hD hS q0 he hc k hk (va_Nw.use rfl hw) (fun _ h => h) hfin (hty k hk) hn hfit hl0 hdg (fun H1 locs1 hP1 hD1 hS1 => kk H1 locs1 ls (hws ▸ hP1) (hws ▸ hD1) hS1 hl)
theorem k_putfF (hC : CX G D cc own nL) (pc : Nat) {ix ci N a : Nat} {C : String} {T : u_T} {ty0 : Nat → FieldType} (q0 : Nat) {fs : List Value} (k : Nat) {v : Value} (ws' : va_W) (hdg : decode cc pc = .ok (.putfield ix, 3)) (he : ws[q0]? = some (a, .inr (ci, fs))) (hc : vwCl[ci]? = some (C, T, N)) (hin : ∀ w ∈ u_ws C T N, w ∈ wsL_law) (hty : ∀ k, k < N → parseFieldDescriptor (T k).2.2.1 = some (ty0 k)) (hnm : ∀ a, a < N → ∀ b, b < N → a ≠ b → (T a).2.1 ≠ (T b).2.1) (hk : k < N) (hw : Cond.fieldLink own ix (T k).1 (T k).2.1 (T k).2.2.1 ∈ wsL_law) (hfin : (T k).2.2.2 = true) (hinit : (kme G).name = "<init>") (hdecl : (T k).1 = own) (hn : narrow (ty0 k) v = v) (hfit : fits (ty0 k) v = true) (hl0 : k < fs.length) (hws : ws.set q0 (a, .inr (ci, fs.set k v)) = ws') (kk : KJ l G D R nL ce sl ws' lv (pc + 3) st) : KJ l G D R nL ce sl ws lv pc (v :: .ref a :: st) := fun H locs ls hP hD hS hl => va_putF hC.ex hC.cd hC.wd hin ty0 hty hnm hC.on hC.kk hP hD hS q0 he hc k hk (hC.wd _ hw) (fun _ h => h) hfin hinit hdecl (hty k hk) hn hfit hl0 hdg (fun H1 locs1 hP1 hD1 hS1 => kk H1 locs1 ls (hws ▸ hP1) (hws ▸ hD1) hS1 hl)
/-- arrays -/
theorem k_iald (hC : CX G D cc own nL) (pc : Nat) {a n : Nat} {f : Nat → Int32} {i : Int32} (q0 : Nat) (hdg : decode cc pc = .ok (.iaload, 1)) (ha : ws[q0]? = some (a, .inl (D.1 5, n, .inl f))) (hi : vp_in i n) (kk : KJ l G D R nL ce sl ws lv (pc + 1) (.int (f i.toNatClampNeg) :: st)) : KJ l G D R nL ce sl ws lv pc (.int i :: .ref a :: st) := fun H locs ls hP hD hS hl => va_iald hC.ex hC.cd hC.kk hP q0 0 ha rfl hi hdg (kk H locs ls hP hD hS hl)
theorem k_iast (hC : CX G D cc own nL) (pc : Nat) {a n : Nat} {f : Nat → Int32} {i x : Int32} (q0 : Nat) (ws' : va_W) (hdg : decode cc pc = .ok (.iastore, 1)) (ha : ws[q0]? = some (a, .inl (D.1 5, n, .inl f))) (hi : vp_in i n) (hws : ws.set q0 (a, .inl (D.1 5, n, .inl (upd f i.toNatClampNeg x))) = ws') (kk : KJ l G D R nL ce sl ws' lv (pc + 1) st) : KJ l G D R nL ce sl ws lv pc (.int x :: .int i :: .ref a :: st) := fun H locs ls hP hD hS hl => va_iast hC.ex hC.cd hC.kk hP hD hS q0 0 ha rfl hi hdg (fun H1 locs1 hP1 hD1 hS1 => kk H1 locs1 ls (hws ▸ hP1) (hws ▸ hD1) hS1 hl)
theorem k_lald (hC : CX G D cc own nL) (pc : Nat) {a n : Nat} {f : Nat → Int64} {i : Int32} (q0 : Nat) (hdg : decode cc pc = .ok (.laload, 1)) (ha : ws[q0]? = some (a, .inl (D.1 6, n, .inr (.inl f)))) (hi : vp_in i n) (kk : KJ l G D R nL ce sl ws lv (pc + 1) (.long (f i.toNatClampNeg) :: st)) : KJ l G D R nL ce sl ws lv pc (.int i :: .ref a :: st) := fun H locs ls hP hD hS hl => va_lald hC.ex hC.cd hC.kk hP q0 1 ha rfl hi hdg (kk H locs ls hP hD hS hl)
theorem k_last (hC : CX G D cc own nL) (pc : Nat) {a n : Nat} {f : Nat → Int64} {i : Int32} {x : Int64} (q0 : Nat) (ws' : va_W) (hdg : decode cc pc = .ok (.lastore, 1)) (ha : ws[q0]? = some (a, .inl (D.1 6, n, .inr (.inl f)))) (hi : vp_in i n) (hws : ws.set q0 (a, .inl (D.1 6, n, .inr (.inl (vp_updL f i.toNatClampNeg x)))) = ws') (kk : KJ l G D R nL ce sl ws' lv (pc + 1) st) : KJ l G D R nL ce sl ws lv pc (.long x :: .int i :: .ref a :: st) := fun H locs ls hP hD hS hl => va_last hC.ex hC.cd hC.kk hP hD hS q0 1 ha rfl hi hdg (fun H1 locs1 hP1 hD1 hS1 => kk H1 locs1 ls (hws ▸ hP1) (hws ▸ hD1) hS1 hl)
theorem k_alen (hC : CX G D cc own nL) (pc : Nat) {a : Nat} {x : vp_A} (q0 t0 : Nat) {cA : ClassId} {ty : FieldType} (v : Int32) (hdg : decode cc pc = .ok (.arraylength, 1)) (ha : ws[q0]? = some (a, .inl (cA, x))) (ht : (kty D)[t0]? = some (cA, ty)) (hv : Int32.ofNat x.1 = v) (kk : KJ l G D R nL ce sl ws lv (pc + 1) (.int v :: st)) : KJ l G D R nL ce sl ws lv pc (.ref a :: st) := fun H locs ls hP hD hS hl => va_alen hC.ex hC.cd hC.kk hP q0 t0 ha ht hv hdg (kk H locs ls hP hD hS hl)
/-- Math.max, Math.min, System.arraycopy -/
theorem k_max (hC : CX G D cc own nL) (pc : Nat) {ix : Nat} {x y : Int32} (hdg : decode cc pc = .ok (.invokestatic ix, 3)) (hw : Cond.methodLink own ix Lib.Math.max.name ∈ wsL_law) (hw2 : Cond.static Lib.Math.max.name ∈ wsL_law) (hw3 : Cond.initialized "java/lang/Math" ∈ wsL_law) (hw4 : Cond.code Lib.Math.max.name Lib.Math.max.code 2 (some .int) ∈ wsL_law) (hR : 1 ≤ R.frames ∧ (st.map fun v => v.category).sum + 13 ≤ R.locals ∧ ce ≤ R.cells ∧ sl ≤ R.slots) (kk : KJ l G D R nL ce sl ws lv (pc + 3) (.int (if x < y then y else x) :: st)) : KJ l G D R nL ce sl ws lv pc (.int y :: .int x :: st) := fun H locs ls hP hD hS hl => va_mmax hC.ex hC.cd (hC.ml.trans hl.1.symm) hC.on (hC.wd _ hw) (hC.wd _ hw2) (hC.wd _ hw3) (hC.wd _ hw4) hR.1 hR.2.1 hR.2.2.1 hR.2.2.2 hdg (kk H locs ls hP hD hS hl)
theorem k_min (hC : CX G D cc own nL) (pc : Nat) {ix : Nat} {x y : Int32} (hdg : decode cc pc = .ok (.invokestatic ix, 3)) (hw : Cond.methodLink own ix Lib.Math.min.name ∈ wsL_law) (hw2 : Cond.static Lib.Math.min.name ∈ wsL_law) (hw3 : Cond.initialized "java/lang/Math" ∈ wsL_law) (hw4 : Cond.code Lib.Math.min.name Lib.Math.min.code 2 (some .int) ∈ wsL_law) (hR : 1 ≤ R.frames ∧ (st.map fun v => v.category).sum + 13 ≤ R.locals ∧ ce ≤ R.cells ∧ sl ≤ R.slots) (kk : KJ l G D R nL ce sl ws lv (pc + 3) (.int (if y < x then y else x) :: st)) : KJ l G D R nL ce sl ws lv pc (.int y :: .int x :: st) := fun H locs ls hP hD hS hl => va_mmin hC.ex hC.cd (hC.ml.trans hl.1.symm) hC.on (hC.wd _ hw) (hC.wd _ hw2) (hC.wd _ hw3) (hC.wd _ hw4) hR.1 hR.2.1 hR.2.2.1 hR.2.2.2 hdg (kk H locs ls hP hD hS hl)
end KS

/-! CONTRACTS: from a world w0 (a list of cells) to a world w1 u, with an answer v of which post v u holds -/
def MPre (D : va_G) (w0 : va_W) (av : List Value) (sz : Nat) : Array Value → State → Prop := va_Pc av (fun U => U.heap.size = sz ∧ va_P D vwCl w0 U.heap ∧ KT D U ∧ va_D (fun _ => True) w0)
def MPost {S : Type} (D : va_G) (w0 : va_W) (sz : Nat) (post : Option Value → S → Prop) (w1 : S → va_W) : Array Value → State → Outcome → State → Prop := fun _ st oc t => (∃ (v : Option Value) (u : S), oc = .returned v ∧ post v u ∧ va_P D vwCl (w1 u) t.heap ∧ va_D (va_A w0 sz) (w1 u)) ∧ va_F (va_A w0 sz) st t
def MU {S : Type} (l : Launch) (y : MethodName) (cc : ByteArray) (maxL : Nat) (ret : Option FieldType) (fr lo : Nat) (D : va_G) (av : List Value) (w0 : va_W) (post : Option Value → S → Prop) (w1 : S → va_W) (mc ms : Nat) : Prop :=
  ∀ sz : Nat, Met l y (.code y cc maxL ret :: wsL_law) ({ frames := fr, cells := mc, slots := ms, locals := lo } : Room) (MPre D w0 av sz) (MPost D w0 sz post w1) mc ms (va_A w0 sz)
def EX {S : Type} (G : KX) (D : va_G) (y : MethodName) (w0 : va_W) (post : Option Value → S → Prop) (w1 : S → va_W) (ret : Option FieldType) (mc ms : Nat) : Prop :=
  kA G = va_A w0 (ks G).heap.size ∧ kQ G = MQ (kb G) (MPost D w0 (ks G).heap.size post w1) (ka G) (ks G) mc ms (va_A w0 (ks G).heap.size) ∧ (kme G).sig.returnType = ret ∧ (kme G).locks = false ∧ (kme G).name = y.name
theorem wsL_good : ∀ w ∈ wsL_law, goodWord w = true := fun w h => List.all_eq_true.mp (show wsL_law.all goodWord = true by decide +kernel) w h
theorem gAll {w0 : Cond} (h : w0 ∈ wsL_law) : GoodIn wsL_law (w0 :: wsL_law) := fun w hw => (List.mem_cons.mp hw).elim (fun e => by subst e; exact ⟨h, good_of_word (wsL_good _ h)⟩) (fun h2 => ⟨h2, good_of_word (wsL_good _ h2)⟩)
section MUs
variable {S : Type} {l : Launch} {y : MethodName} {cc : ByteArray} {maxL : Nat} {ret : Option FieldType} {fr lo : Nat} {D : va_G} {av : List Value} {w0 : va_W} {post : Option Value → S → Prop} {w1 : S → va_W} {mc ms : Nat}
theorem MPre.blind {sz : Nat} : FrameBlind (MPre D w0 av sz) := fun _ U _ _ q => ⟨q.1, q.2.1, q.2.2.1, KT.same (u := U) rfl q.2.2.2.1, q.2.2.2.2⟩
theorem MU.enter (hy : plainName y.cls = true) (lv0 : List (Nat × Value)) (hlv : lv_args 0 av = lv0) (hle : (lg_sl av).length ≤ maxL)
    (h : ∀ G : KX, CX G D cc y.cls maxL → EX G D y w0 post w1 ret mc ms → KJ l G D ({ frames := fr, cells := mc, slots := ms, locals := lo } : Room) maxL 0 0 w0 lv0 0 []) : MU l y cc maxL ret fr lo D av w0 post w1 mc ms := by
  intro sz
  refine Met.ofW (cc := cc) (maxL := maxL) (ret := ret) hy rfl ?_
  intro p e s m args below meth c s₁ B hml hv
  obtain ⟨rfl, hsz, hP, hK, hD0⟩ := hv
  subst hsz
  have hts := atoms_spec (ws := .code y cc maxL ret :: wsL_law) B.pre
  have hts : ∀ w ∈ wsL_law, w.before av.toArray s = true := fun w h => hts w (List.mem_cons_of_mem _ h)
  have hown : s.vm.findClass y.cls = some m.cls := findClass_of_methodNamed B.named
  have hl := lv_entry av (n := maxL) hle
  rw [hlv] at hl
  rw [lg_entry_eq]
  generalize (lg_sl av ++ List.replicate (maxL - (lg_sl av).length) Slot.unset).toArray = ls at hl ⊢
  exact h (p, e, s, m, av.toArray, below, meth, c, _, va_A w0 s.heap.size) ⟨B.exec, B.bytes, hml, hown, hts, hK, fun q hq => Or.inr hq⟩ ⟨rfl, rfl, B.returns, B.notSynchronized, (name_of_methodNamed B.named B.method).1⟩ s.heap [] ls hP hD0.self va_S.rf hl
variable {G : KX} {R : Room} {own : String} {nL ce sl : Nat} {ws : va_W} {lv : List (Nat × Value)} {st : List Value}
theorem EX.end_ (hE : EX G D y w0 post w1 ret mc ms) {v : Option Value} {u : S} (hp : post v u) {H : Heap} {locs : List Loc} (hP : va_P D vwCl ws H) (hD : va_D (kA G) ws) (hS : va_S (kA G) (ks G).heap H locs) (hw : w1 u = ws) : ∀ t : State, t.heap = H → (ks G).WarmedH t.vm → MPost D w0 (ks G).heap.size post w1 (ka G) (ks G) (.returned v) t := by
  intro t ht _
  have hA := hE.1
  subst hw
  refine ⟨⟨v, u, rfl, hp, by rw [ht]; exact hP, by rw [← hA]; exact hD⟩, by rw [← hA]; exact hS.F ht⟩
theorem EX.lc (hE : EX G D y w0 post w1 ret mc ms) {H : Heap} {locs : List Loc} (hS : va_S (kA G) (ks G).heap H locs) : ∀ q ∈ locs, va_A w0 (ks G).heap.size q.base := by
  rw [← hE.1]; exact hS.2.2
theorem k_iret {ty : FieldType} (hC : CX G D cc own nL) (hE : EX G D y w0 post w1 (some ty) mc ms) (pc : Nat) {v : Int32} (u : S) (hdg : decode cc pc = .ok (.ireturn, 1)) (hn : narrow ty (.int v) = .int v) (hp : post (some (.int v)) u) (hw : w1 u = ws) (hf : ce ≤ mc ∧ sl ≤ ms) : KJ l G D R nL ce sl ws lv pc [.int v] := fun H locs ls hP hD hS hl => by
  rw [hE.2.1]
  exact W.widen hf.1 hf.2 (W.zret hC.ex hC.cd hE.2.2.1 hn (hE.end_ hp hP hD hS hw) (hE.lc hS) hdg hE.2.2.2.1)
theorem k_lret (hC : CX G D cc own nL) (hE : EX G D y w0 post w1 (some .long) mc ms) (pc : Nat) {v : Int64} (u : S) (hdg : decode cc pc = .ok (.lreturn, 1)) (hp : post (some (.long v)) u) (hw : w1 u = ws) (hf : ce ≤ mc ∧ sl ≤ ms) : KJ l G D R nL ce sl ws lv pc [.long v] := fun H locs ls hP hD hS hl => by
  rw [hE.2.1]
  exact W.widen hf.1 hf.2 (W.lret hC.ex hC.cd hE.2.2.1 (hE.end_ hp hP hD hS hw) (hE.lc hS) hdg hE.2.2.2.1)
theorem k_dret (hC : CX G D cc own nL) (hE : EX G D y w0 post w1 (some .double) mc ms) (pc : Nat) {v : UInt64} (u : S) (hdg : decode cc pc = .ok (.dreturn, 1)) (hp : post (some (.double v)) u) (hw : w1 u = ws) (hf : ce ≤ mc ∧ sl ≤ ms) : KJ l G D R nL ce sl ws lv pc [.double v] := fun H locs ls hP hD hS hl => by
  rw [hE.2.1]
  exact W.widen hf.1 hf.2 (W.dret hC.ex hC.cd hE.2.2.1 (hE.end_ hp hP hD hS hw) (hE.lc hS) hdg hE.2.2.2.1)
theorem k_aret {rt : FieldType} (hC : CX G D cc own nL) (hE : EX G D y w0 post w1 (some rt) mc ms) (pc : Nat) {a : Nat} (u : S) (hdg : decode cc pc = .ok (.areturn, 1)) (hrt : (∃ n, rt = .object n) ∨ ∃ t, rt = .array t) (hp : post (some (.ref a)) u) (hw : w1 u = ws) (hf : ce ≤ mc ∧ sl ≤ ms) : KJ l G D R nL ce sl ws lv pc [.ref a] := fun H locs ls hP hD hS hl => by
  rw [hE.2.1]
  exact W.widen hf.1 hf.2 (W.aret hC.ex hC.cd hE.2.2.1 hrt (Or.inr ⟨a, rfl⟩) (hE.end_ hp hP hD hS hw) (hE.lc hS) hdg hE.2.2.2.1)
theorem k_vret (hC : CX G D cc own nL) (hE : EX G D y w0 post w1 none mc ms) (pc : Nat) (u : S) (hdg : decode cc pc = .ok (.return_, 1)) (hp : post none u) (hw : w1 u = ws) (hf : ce ≤ mc ∧ sl ≤ ms) : KJ l G D R nL ce sl ws lv pc [] := fun H locs ls hP hD hS hl => by
  rw [hE.2.1]
  exact W.widen hf.1 hf.2 (W.vret hC.ex hC.cd hE.2.2.1 (hE.end_ hp hP hD hS hw) (hE.lc hS) hdg hE.2.2.2.1)
end MUs
/-! CALLS -/
/-- cells are replaced by their places; what comes in addition goes to the end -/
def putL : va_W → List Nat → va_W → va_W
  | ws, [], w1 => ws ++ w1
  | ws, _ :: _, [] => ws
  | ws, i :: is, c :: w1 => putL (ws.set i c) is w1
theorem putL_get : ∀ (is : List Nat) (ws w1 : va_W) (k : Nat) (q : Nat × va_E), va_nd is = true → is.length ≤ w1.length → (∀ i ∈ is, i < ws.length) → (putL ws is w1)[k]? = some q →
    (∃ j : Nat, is[j]? = some k ∧ w1[j]? = some q) ∨ (k ∉ is ∧ k < ws.length ∧ ws[k]? = some q) ∨ (∃ j : Nat, k = ws.length + j ∧ w1[is.length + j]? = some q)
  | [], ws, w1, k, q, _, _, _, h => by
    simp only [putL] at h
    by_cases hk : k < ws.length
    · rw [List.getElem?_append_left hk] at h
      exact Or.inr (Or.inl ⟨List.not_mem_nil, hk, h⟩)
    · rw [List.getElem?_append_right (by omega)] at h
      exact Or.inr (Or.inr ⟨k - ws.length, by omega, by simpa using h⟩)
  | i :: is, ws, [], k, q, _, hl, _, h => by simp at hl
  | i :: is, ws, c :: w1, k, q, hn, hl, hi, h => by
    simp only [va_nd, Bool.and_eq_true, decide_eq_true_eq] at hn
    have hii : i < ws.length := hi i List.mem_cons_self
    simp only [putL] at h
    rcases putL_get is (ws.set i c) w1 k q hn.2 (by simpa using hl) (fun j hj => by rw [List.length_set]; exact hi j (List.mem_cons_of_mem _ hj)) h with ⟨j, h1, h2⟩ | ⟨h1, h2, h3⟩ | ⟨j, h1, h2⟩
    · exact Or.inl ⟨j + 1, by simpa using h1, by simpa using h2⟩
    · rw [List.length_set] at h2
      by_cases hk : k = i
      · subst hk
        rw [List.getElem?_set_self hii] at h3
        exact Or.inl ⟨0, rfl, h3⟩
      · rw [List.getElem?_set_ne (Ne.symm hk)] at h3
        exact Or.inr (Or.inl ⟨fun hm => (List.mem_cons.mp hm).elim hk h1, h2, h3⟩)
    · rw [List.length_set] at h1
      refine Or.inr (Or.inr ⟨j, h1, ?_⟩)
      rw [List.length_cons, Nat.add_right_comm]
      simpa using h2
theorem putL_ok {A : Nat → Prop} {D : va_G} {cl : List vw_C} {ws wc w1 : va_W} {H H1 : Heap} (hP : va_P D cl ws H) (hD : va_D A ws) (is : List Nat) (hn : va_nd is = true) (hC : is.map (fun i => ws[i]?) = wc.map some) (hl : is.length ≤ w1.length)
    (hk : ∀ q : Nat, q < H.size → ¬ va_A wc H.size q → H1[q]? = H[q]?) (hF : ∀ q, va_A wc H.size q → A q) (hP1 : va_P D cl w1 H1) (hD1 : va_D (va_A wc H.size) w1) : va_P D cl (putL ws is w1) H1 ∧ va_D A (putL ws is w1) := by
  have hat : ∀ (k : Nat) (q : Nat × va_E), wc[k]? = some q → ∃ i, is[k]? = some i ∧ ws[i]? = some q := by
    intro k q hq
    have h1 : (is.map (fun i => ws[i]?))[k]? = some (some q) := by rw [hC, List.getElem?_map, hq]; rfl
    rw [List.getElem?_map] at h1
    cases hi : is[k]? with
    | none => rw [hi] at h1; cases h1
    | some i => rw [hi] at h1; exact ⟨i, rfl, Option.some.inj h1⟩
  have hin : ∀ i ∈ is, i < ws.length := by
    intro i hi
    obtain ⟨k, hk1⟩ := List.getElem?_of_mem hi
    have h1 : (is.map (fun i => ws[i]?))[k]? = some (ws[i]?) := by rw [List.getElem?_map, hk1]; rfl
    rw [hC, List.getElem?_map] at h1
    cases hw : wc[k]? with
    | none => rw [hw] at h1; cases h1
    | some q =>
      rw [hw] at h1
      exact (List.getElem?_eq_some_iff.mp (Option.some.inj h1).symm).1
  have apart : ∀ (i : Nat) (q : Nat × va_E), i ∉ is → ws[i]? = some q → q.1 < H.size ∧ ¬ va_A wc H.size q.1 := by
    intro i q hi hq
    have hl := (hP i q hq).lt
    refine ⟨hl, fun h => ?_⟩
    rcases h with ⟨k2, e, h⟩ | h
    · obtain ⟨j, h3, h4⟩ := hat k2 (q.1, e) h
      have hij := hD.1 i j q (q.1, e) hq h4 rfl
      subst hij
      exact hi (List.mem_of_getElem? h3)
    · omega
  refine ⟨fun k q h => ?_, fun i j p q hi hj hpq => ?_, fun k q h => ?_⟩
  · rcases putL_get is ws w1 k q hn hl hin h with ⟨j, -, h2⟩ | ⟨h1, -, h3⟩ | ⟨j, -, h2⟩
    · exact hP1 j q h2
    · obtain ⟨g1, g2⟩ := apart k q h1 h3
      exact (hP k q h3).kept (hk q.1 g1 g2)
    · exact hP1 _ q h2
  · rcases putL_get is ws w1 i p hn hl hin hi with ⟨a, h1, h2⟩ | ⟨h1, h1', h2⟩ | ⟨a, h1, h2⟩ <;> rcases putL_get is ws w1 j q hn hl hin hj with ⟨b, k1, k2⟩ | ⟨k1, k1', k2⟩ | ⟨b, k1, k2⟩
    · have e := hD1.1 _ _ p q h2 k2 hpq
      subst e
      exact Option.some.inj (h1.symm.trans k1)
    · exact absurd (hpq ▸ hD1.2 _ p h2) (apart j q k1 k2).2
    · have e := hD1.1 _ _ p q h2 k2 hpq
      have := (List.getElem?_eq_some_iff.mp h1).1
      omega
    · exact absurd (hpq ▸ hD1.2 _ q k2) (hpq ▸ (apart i p h1 h2).2)
    · exact hD.1 i j p q h2 k2 hpq
    · exact absurd (hpq ▸ hD1.2 _ q k2) (hpq ▸ (apart i p h1 h2).2)
    · have e := hD1.1 _ _ p q h2 k2 hpq
      have := (List.getElem?_eq_some_iff.mp k1).1
      omega
    · exact absurd (hpq ▸ hD1.2 _ p h2) (apart j q k1 k2).2
    · have e := hD1.1 _ _ p q h2 k2 hpq
      omega
  · rcases putL_get is ws w1 k q hn hl hin h with ⟨j, -, h2⟩ | ⟨h1, -, h3⟩ | ⟨j, -, h2⟩
    · exact hF _ (hD1.2 j q h2)
    · exact hD.2 k q h3
    · exact hF _ (hD1.2 _ q h2)
section CG
variable {p : Program} {l : Launch} {e : Env} {R : Room} {s : State} {m : MethodId} {args : Array Value} {below : List Frame} {meth : Method} {c : Code} {H : Heap} {locs : List Loc} {cells slots mc ms : Nat} {Q : State → Prop} {g : JFrame} {rest : List Value} {free : Addr → Prop}
theorem va_callg {Qa : State → Outcome → State → Prop} (hr : va_Run p l e R s m args below meth c H locs cells slots mc ms g rest Qa free)
    (kk : ∀ (v : Option Value) (st₀ t : State) (H1 : Heap) (L : List Loc), st₀.heap = H → t.heap = H1 → (∀ q ∈ L, free q.base) → Qa st₀ (.returned v) t → W p l e R s m args below meth c H1 (locs ++ L) (cells + mc) (slots + ms) Q { g with pc := g.pc + 3, stack := v.toList ++ rest }) : W p l e R s m args below meth c H locs cells slots Q g := by
  intro T hT X
  obtain ⟨v, st₀, t, T', L, h0, X', hL, e1, e2, hq, stp⟩ := hr T hT X
  obtain ⟨t2, a1, b1⟩ := kk v st₀ t T'.heap L h0 e1.symm hL hq T' rfl X'
  exact ⟨t2, stp t2 a1, b1⟩
end CG
section CK
variable {S : Type} {l : Launch} {G : KX} {D : va_G} {R : Room} {cc : ByteArray} {own : String} {nL ce sl : Nat} {ws : va_W} {lv : List (Nat × Value)} {st : List Value}
variable {y : MethodName} {bytes : ByteArray} {maxL : Nat} {ret : Option FieldType} {fr lo : Nat} {w0 : va_W} {post : Option Value → S → Prop} {w1 : S → va_W} {mc ms n ix : Nat} {As : List Value}
theorem k_callK (hC : CX G D cc own nL) (pc : Nat) {a : Array Value} (is : List Nat) (hnd : va_nd is = true) (his : is.map (fun i => ws[i]?) = w0.map some) (ws' : S → va_W) (hlen : ∀ u, is.length ≤ (w1 u).length) (hws : ∀ u, putL ws is (w1 u) = ws' u)
    {H : Heap} {locs : List Loc} {ls : Array Slot} {st0 : List Value} (hP : va_P D vwCl ws H) (hD : va_D (kA G) ws) (hS : va_S (kA G) (ks G).heap H locs) (hl : lv_has ls nL lv)
    (hr : va_Run (kp G) l (ke G) R (ks G) (km G) (ka G) (kb G) (kme G) (kc G) H locs ce sl mc ms (F0 (km G) pc ls st0) st (MPost D w0 H.size post w1 a) (va_A w0 H.size))
    (kk : ∀ (v : Option Value) (u : S), post v u → KJ l G D R nL (ce + mc) (sl + ms) (ws' u) lv (pc + 3) (v.toList ++ st)) : W (kp G) l (ke G) R (ks G) (km G) (ka G) (kb G) (kme G) (kc G) H locs ce sl (kQ G) (F0 (km G) pc ls st0) := by
  refine va_callg hr (fun v st₀ t H1 L h0 h1 hL hq => ?_)
  obtain ⟨⟨v', u, hv, hp, hP1, hD1⟩, hz, hk⟩ := hq
  cases hv
  rw [h0] at hz hk
  rw [h1] at hP1 hz hk
  have hF : ∀ q, va_A w0 H.size q → kA G q := va_free hD hS hC.nw is his
  obtain ⟨hP2, hD2⟩ := putL_ok hP hD is hnd his (hlen u) hk hF hP1 hD1
  rw [hws u] at hP2 hD2
  refine kk v u hp H1 (locs ++ L) ls hP2 hD2 ⟨Nat.le_trans hS.1 hz, fun q h2 h3 => ?_, fun q hq => ?_⟩ hl
  · rw [hk q (Nat.lt_of_lt_of_le h2 hS.1) (fun z => h3 (hF q z))]
    exact hS.2.1 q h2 h3
  · rcases List.mem_append.mp hq with h | h
    · exact hS.2.2 q h
    · exact hF _ (hL q h)
theorem k_pre (hC : CX G D cc own nL) {av : List Value} (is : List Nat) (hnd : va_nd is = true) (his : is.map (fun i => ws[i]?) = w0.map some) {H : Heap} (hP : va_P D vwCl ws H) (hD : va_D (kA G) ws) : ∀ U : State, U.heap = H → (ks G).WarmedH U.vm → MPre D w0 av H.size av.toArray U := by
  intro U hU hW
  have hP0 : va_P D vwCl w0 H := by
    intro k q hq
    have h1 : (is.map (fun i => ws[i]?))[k]? = some (some q) := by rw [his, List.getElem?_map, hq]; rfl
    rw [List.getElem?_map] at h1
    cases hi : is[k]? with
    | none => rw [hi] at h1; cases h1
    | some i => rw [hi] at h1; exact hP i q (Option.some.inj h1)
  exact ⟨rfl, by rw [hU], by rw [hU]; exact hP0, hC.kt.warm hW, (hD.sub is hnd his).weaken (fun _ _ _ _ => trivial)⟩
theorem k_callV (hC : CX G D cc own nL) (pc : Nat) {b ci : Nat} {q : vw_C} {fs : List Value} (q0 : Nat) (is : List Nat) (ws' : S → va_W) (hM : MU l y bytes maxL ret fr lo D (.ref b :: As) w0 post w1 mc ms) (cw : CWV own ix y bytes maxL ret n) (hdg : decode cc pc = .ok (.invokevirtual ix, 3))
    (hR : fr + 1 ≤ R.frames ∧ 8 + (maxL + 11) + lo ≤ R.locals ∧ ce + mc ≤ R.cells ∧ sl + ms ≤ R.slots) (hn : As.length = n) (hcat : (st.map fun v => v.category).sum ≤ 8)
    (hq : ws[q0]? = some (b, .inr (ci, fs))) (hci : vwCl[ci]? = some q) (hqn : q.1 = y.cls) (hnd : va_nd is = true) (his : is.map (fun i => ws[i]?) = w0.map some) (hlen : ∀ u, is.length ≤ (w1 u).length) (hws : ∀ u, putL ws is (w1 u) = ws' u)
    (st0 : List Value) (hst : st0 = As.reverse ++ .ref b :: st) (kk : ∀ (v : Option Value) (u : S), post v u → KJ l G D R nL (ce + mc) (sl + ms) (ws' u) lv (pc + 3) (v.toList ++ st)) : KJ l G D R nL ce sl ws lv pc st0 := by
  subst hst
  intro H locs ls hP hD hS hl
  have hcw : CallW R (ks G) (ka G) own y.cls ix y bytes maxL ret (.code y bytes maxL ret :: wsL_law) ({ frames := fr, cells := mc, slots := ms, locals := lo } : Room) mc ms n := ⟨callB_of n hC.wd (gAll cw.2.2.2.2.1) rfl rfl rfl (hC.wd _ cw.2.2.2.1) (hC.wd _ cw.1) cw.2.2.2.2.2 ⟨hR.1, hR.2.1⟩, hC.wd _ cw.2.1, hC.wd _ cw.2.2.1⟩
  exact k_callK hC pc is hnd his ws' hlen hws hP hD hS hl (va_runV (As := As) (rest := st) hC.fix (hM H.size) hcw ⟨MPre.blind, by have h := va_recv hC.kk hP hci hq; rw [hqn] at h; exact h, fun U hU hW => k_pre hC is hnd his hP hD U hU hW⟩ rfl hn hl.1 rfl (lv_room hcat) hdg hR.2.2) kk
theorem k_callS (hC : CX G D cc own nL) (pc : Nat) (is : List Nat) (ws' : S → va_W) (hM : MU l y bytes maxL ret fr lo D As w0 post w1 mc ms) (cw : CWS own ix y bytes maxL ret n) (hdg : decode cc pc = .ok (.invokestatic ix, 3))
    (hR : fr + 1 ≤ R.frames ∧ 8 + (maxL + 11) + lo ≤ R.locals ∧ ce + mc ≤ R.cells ∧ sl + ms ≤ R.slots) (hn : As.length = n) (hcat : (st.map fun v => v.category).sum ≤ 8)
    (hnd : va_nd is = true) (his : is.map (fun i => ws[i]?) = w0.map some) (hlen : ∀ u, is.length ≤ (w1 u).length) (hws : ∀ u, putL ws is (w1 u) = ws' u)
    (st0 : List Value) (hst : st0 = As.reverse ++ st) (kk : ∀ (v : Option Value) (u : S), post v u → KJ l G D R nL (ce + mc) (sl + ms) (ws' u) lv (pc + 3) (v.toList ++ st)) : KJ l G D R nL ce sl ws lv pc st0 := by
  subst hst
  intro H locs ls hP hD hS hl
  have hcw : CallB R (ks G) (ka G) own ix y bytes maxL ret (.code y bytes maxL ret :: wsL_law) ({ frames := fr, cells := mc, slots := ms, locals := lo } : Room) mc ms n ∧ (Cond.static y).before (ka G) (ks G) = true := ⟨callB_of n hC.wd (gAll cw.2.2.2.1) rfl rfl rfl (hC.wd _ cw.2.2.1) (hC.wd _ cw.1) cw.2.2.2.2 ⟨hR.1, hR.2.1⟩, hC.wd _ cw.2.1⟩
  exact k_callK hC pc is hnd his ws' hlen hws hP hD hS hl (va_runS (As := As) (rest := st) hC.fix (hM H.size) hcw ⟨MPre.blind, fun U hU hW => k_pre hC is hnd his hP hD U hU hW⟩ rfl hn hl.1 rfl (lv_room hcat) hdg hR.2.2) kk
theorem k_callI (hC : CX G D cc own nL) (pc : Nat) {b : Nat} (is : List Nat) (ws' : S → va_W) (hM : MU l y bytes maxL none fr lo D (.ref b :: As) w0 post w1 mc ms) (cw : CWI own ix y bytes maxL n) (hdg : decode cc pc = .ok (.invokespecial ix, 3))
    (hR : fr + 1 ≤ R.frames ∧ 8 + (maxL + 11) + lo ≤ R.locals ∧ ce + mc ≤ R.cells ∧ sl + ms ≤ R.slots) (hn : As.length = n) (hcat : (st.map fun v => v.category).sum ≤ 8)
    (hnd : va_nd is = true) (his : is.map (fun i => ws[i]?) = w0.map some) (hlen : ∀ u, is.length ≤ (w1 u).length) (hws : ∀ u, putL ws is (w1 u) = ws' u)
    (st0 : List Value) (hst : st0 = As.reverse ++ .ref b :: st) (kk : ∀ (v : Option Value) (u : S), post v u → KJ l G D R nL (ce + mc) (sl + ms) (ws' u) lv (pc + 3) (v.toList ++ st)) : KJ l G D R nL ce sl ws lv pc st0 := by
  subst hst
  intro H locs ls hP hD hS hl
  have hcw : CallB R (ks G) (ka G) own ix y bytes maxL none (.code y bytes maxL none :: wsL_law) ({ frames := fr, cells := mc, slots := ms, locals := lo } : Room) mc ms n ∧ y.name = "<init>" ∧ (Cond.instanceMethod y).before (ka G) (ks G) = true := ⟨callB_of n hC.wd (gAll cw.2.2.2.1) rfl rfl rfl (hC.wd _ cw.2.2.1) (hC.wd _ cw.1) cw.2.2.2.2.2 ⟨hR.1, hR.2.1⟩, cw.2.2.2.2.1, hC.wd _ cw.2.1⟩
  exact k_callK hC pc is hnd his ws' hlen hws hP hD hS hl (va_runI (As := As) (rest := st) hC.fix (hM H.size) hcw ⟨MPre.blind, fun U hU hW => k_pre hC is hnd his hP hD U hU hW⟩ rfl hn hl.1 rfl (lv_room hcat) hdg hR.2.2) kk
theorem k_callVr (hC : CX G D cc own nL) (pc : Nat) {b ci : Nat} {q : vw_C} {fs : List Value} (q0 : Nat) (is : List Nat) (hM : MU l y bytes maxL ret fr lo D (.ref b :: As) w0 post w1 mc ms) (cw : CWV own ix y bytes maxL ret n) (hdg : decode cc pc = .ok (.invokevirtual ix, 3))
    (hR : fr + 1 ≤ R.frames ∧ 8 + (maxL + 11) + lo ≤ R.locals ∧ ce + mc ≤ R.cells ∧ sl + ms ≤ R.slots) (hn : As.length = n) (hcat : (st.map fun v => v.category).sum ≤ 8)
    (hq : ws[q0]? = some (b, .inr (ci, fs))) (hci : vwCl[ci]? = some q) (hqn : q.1 = y.cls) (hnd : va_nd is = true) (his : is.map (fun i => ws[i]?) = w0.map some) (hlen : ∀ u, is.length ≤ (w1 u).length) (hws : ∀ u, putL ws is (w1 u) = ws)
    (st0 : List Value) (hst : st0 = As.reverse ++ .ref b :: st) (kk : ∀ (v : Option Value) (u : S), post v u → KJ l G D R nL (ce + mc) (sl + ms) ws lv (pc + 3) (v.toList ++ st)) : KJ l G D R nL ce sl ws lv pc st0 := k_callV hC pc q0 is (fun _ => ws) hM cw hdg hR hn hcat hq hci hqn hnd his hlen hws st0 hst kk
theorem k_callSr (hC : CX G D cc own nL) (pc : Nat) (is : List Nat) (hM : MU l y bytes maxL ret fr lo D As w0 post w1 mc ms) (cw : CWS own ix y bytes maxL ret n) (hdg : decode cc pc = .ok (.invokestatic ix, 3))
    (hR : fr + 1 ≤ R.frames ∧ 8 + (maxL + 11) + lo ≤ R.locals ∧ ce + mc ≤ R.cells ∧ sl + ms ≤ R.slots) (hn : As.length = n) (hcat : (st.map fun v => v.category).sum ≤ 8)
    (hnd : va_nd is = true) (his : is.map (fun i => ws[i]?) = w0.map some) (hlen : ∀ u, is.length ≤ (w1 u).length) (hws : ∀ u, putL ws is (w1 u) = ws)
    (st0 : List Value) (hst : st0 = As.reverse ++ st) (kk : ∀ (v : Option Value) (u : S), post v u → KJ l G D R nL (ce + mc) (sl + ms) ws lv (pc + 3) (v.toList ++ st)) : KJ l G D R nL ce sl ws lv pc st0 := k_callS hC pc is (fun _ => ws) hM cw hdg hR hn hcat hnd his hlen hws st0 hst kk
theorem k_callIr (hC : CX G D cc own nL) (pc : Nat) {b : Nat} (is : List Nat) (hM : MU l y bytes maxL none fr lo D (.ref b :: As) w0 post w1 mc ms) (cw : CWI own ix y bytes maxL n) (hdg : decode cc pc = .ok (.invokespecial ix, 3))
    (hR : fr + 1 ≤ R.frames ∧ 8 + (maxL + 11) + lo ≤ R.locals ∧ ce + mc ≤ R.cells ∧ sl + ms ≤ R.slots) (hn : As.length = n) (hcat : (st.map fun v => v.category).sum ≤ 8)
    (hnd : va_nd is = true) (his : is.map (fun i => ws[i]?) = w0.map some) (hlen : ∀ u, is.length ≤ (w1 u).length) (hws : ∀ u, putL ws is (w1 u) = ws)
    (st0 : List Value) (hst : st0 = As.reverse ++ .ref b :: st) (kk : ∀ (v : Option Value) (u : S), post v u → KJ l G D R nL (ce + mc) (sl + ms) ws lv (pc + 3) (v.toList ++ st)) : KJ l G D R nL ce sl ws lv pc st0 := k_callI hC pc is (fun _ => ws) hM cw hdg hR hn hcat hnd his hlen hws st0 hst kk
theorem k_objInit (hC : CX G D cc own nL) (pc : Nat) {b : Nat} (hdg : decode cc pc = .ok (.invokespecial ix, 3)) (hw : Cond.methodLink own ix objectInit ∈ wsL_law) (hw2 : Cond.instanceMethod objectInit ∈ wsL_law) (hw3 : Cond.code objectInit ⟨#[0xb1]⟩ 1 none ∈ wsL_law) (hR : 1 ≤ R.frames ∧ (st.map fun v => v.category).sum + 12 ≤ R.locals) (kk : KJ l G D R nL ce sl ws lv (pc + 3) st) : KJ l G D R nL ce sl ws lv pc (.ref b :: st) := fun H locs ls hP hD hS hl => by
  refine W.objInit hC.ex hC.cd hC.on (hC.wd _ hw) (hC.wd _ hw2) (hC.wd _ hw3) rfl (hl.1.trans hC.ml.symm) rfl hdg hR.1 ?_ (kk H locs ls hP hD hS hl)
  show 2 * 0 + _ + 12 ≤ _
  have := hR.2
  omega
theorem k_newarrI (hC : CX G D cc own nL) (pc N : Nat) (hdg : decode cc pc = .ok (.newarray .int, 2)) (hN : N < 2147483648) (hb : N * 4 ≤ 536870912) (hR : ce + 1 ≤ R.cells ∧ sl + N ≤ R.slots) (kk : ∀ q : Nat, KJ l G D R nL (ce + 1) (sl + N) (ws ++ [(q, .inl (D.1 5, N, .inl (fun _ => 0)))]) lv (pc + 2) (.ref q :: st)) : KJ l G D R nL ce sl ws lv pc (.int (nI N) :: st) := fun H locs ls hP hD hS hl => by
  refine va_newa (atype := .int) (ty := .int) (a0 := (N, .inl (fun _ => 0))) hC.ex hC.cd (hC.wd (.arrayClass .int) wq_2_16) rfl hC.kk hP hD hS hC.nw (fun _ => rfl) (fun h => absurd (nI_pos' hN) (by intro h2; exact (Int32.not_lt.mpr h2) h)) (nI_clamp hN) hb hR.1 hR.2 hdg (fun q cA H1 hK1 hP1 hD1 hS1 => ?_)
  have e1 : (ks G).vm.findClass ("[" ++ FieldType.int.toString) = some cA := (hK1.2 3 (cA, .int) rfl).2
  have e2 : (ks G).vm.findClass ("[" ++ FieldType.int.toString) = some (D.1 5) := (hC.kk.2 0 (D.1 5, .int) rfl).2
  have e : cA = D.1 5 := Option.some.inj (e1.symm.trans e2)
  subst e
  exact kk q H1 locs ls hP1 hD1 hS1 hl
theorem k_newarrJ (hC : CX G D cc own nL) (pc N : Nat) (hdg : decode cc pc = .ok (.newarray .long, 2)) (hN : N < 2147483648) (hb : N * 8 ≤ 536870912) (hR : ce + 1 ≤ R.cells ∧ sl + N ≤ R.slots) (kk : ∀ q : Nat, KJ l G D R nL (ce + 1) (sl + N) (ws ++ [(q, .inl (D.1 6, N, .inr (.inl (fun _ => 0))))]) lv (pc + 2) (.ref q :: st)) : KJ l G D R nL ce sl ws lv pc (.int (nI N) :: st) := fun H locs ls hP hD hS hl => by
  refine va_newa (atype := .long) (ty := .long) (a0 := (N, .inr (.inl (fun _ => 0)))) hC.ex hC.cd (hC.wd (.arrayClass .long) wq_1_6) rfl hC.kk hP hD hS hC.nw (fun _ => rfl) (fun h => absurd (nI_pos' hN) (by intro h2; exact (Int32.not_lt.mpr h2) h)) (nI_clamp hN) hb hR.1 hR.2 hdg (fun q cA H1 hK1 hP1 hD1 hS1 => ?_)
  have e1 : (ks G).vm.findClass ("[" ++ FieldType.long.toString) = some cA := (hK1.2 3 (cA, .long) rfl).2
  have e2 : (ks G).vm.findClass ("[" ++ FieldType.long.toString) = some (D.1 6) := (hC.kk.2 1 (D.1 6, .long) rfl).2
  have e : cA = D.1 6 := Option.some.inj (e1.symm.trans e2)
  subst e
  exact kk q H1 locs ls hP1 hD1 hS1 hl
theorem k_new (hC : CX G D cc own nL) (pc ci : Nat) {C : String} {T : u_T} {N : Nat} {ty0 : Nat → FieldType} (fs : List Value) (hdg : decode cc pc = .ok (.new ix, 3)) (hc : vwCl[ci]? = some (C, T, N)) (hin : ∀ w ∈ u_ws C T N, w ∈ wsL_law) (hty : ∀ k, k < N → parseFieldDescriptor (T k).2.2.1 = some (ty0 k)) (hw : Cond.classLink own ix C ∈ wsL_law) (hw2 : Cond.instantiable C N ∈ wsL_law) (hw3 : Cond.initialized C ∈ wsL_law) (hfs : ∀ j, j < N → defaultValue (ty0 j) = vp_V fs j) (hR : ce + 1 ≤ R.cells ∧ sl + N ≤ R.slots) (kk : ∀ q : Nat, KJ l G D R nL (ce + 1) (sl + N) (ws ++ [(q, .inr (ci, fs))]) lv (pc + 3) (.ref q :: st)) : KJ l G D R nL ce sl ws lv pc st := fun H locs ls hP hD hS hl => va_new hC.ex hC.cd hC.wd hin ty0 hty hC.on (hC.wd _ hw) (hC.wd _ hw2) (hC.wd _ hw3) hC.kk hP hD hS hC.nw hc hfs hR.1 hR.2 hdg (fun q H1 hP1 hD1 hS1 => kk q H1 locs ls hP1 hD1 hS1 hl)
end CK
/-! THE SAME ROWS OVER NATURAL NUMBERS (nI) -/
section KN
variable {l : Launch} {G : KX} {D : va_G} {R : Room} {cc : ByteArray} {own : String} {nL ce sl : Nat} {ws : va_W} {lv lv' : List (Nat × Value)} {st : List Value}
theorem n_icmp_eq (hC : CX G D cc own nL) (pc : Nat) {a b : Nat} {off : Int} (tgt : Nat) (hdg : decode cc pc = .ok (.if_icmp .eq off, 3)) (ht : (pc : Int) + off = (tgt : Int)) (ha : a < 2147483648) (hb : b < 2147483648) (kt : a = b → KJ l G D R nL ce sl ws lv tgt st) (kf : ¬ a = b → KJ l G D R nL ce sl ws lv (pc + 3) st) : KJ l G D R nL ce sl ws lv pc (.int (nI b) :: .int (nI a) :: st) := by
  have e := (nI_eq ha hb)
  refine k_icmp_eq hC pc tgt hdg ht (fun h => kt ?_) (fun h => kf ?_)
  · first | exact e.mp h | exact fun z => h (e.mpr z) | exact fun z => absurd (e.mpr z) h | (have := e.mp h; omega)
  · first | exact e.mp h | exact fun z => h (e.mpr z) | exact Classical.byContradiction (fun z => h (fun y => z (e.mp y))) | (have : ¬ _ := fun z => h (e.mpr z); omega)
theorem n_icmp_ne (hC : CX G D cc own nL) (pc : Nat) {a b : Nat} {off : Int} (tgt : Nat) (hdg : decode cc pc = .ok (.if_icmp .ne off, 3)) (ht : (pc : Int) + off = (tgt : Int)) (ha : a < 2147483648) (hb : b < 2147483648) (kt : ¬ a = b → KJ l G D R nL ce sl ws lv tgt st) (kf : a = b → KJ l G D R nL ce sl ws lv (pc + 3) st) : KJ l G D R nL ce sl ws lv pc (.int (nI b) :: .int (nI a) :: st) := by
  have e := (nI_eq ha hb)
  refine k_icmp_ne hC pc tgt hdg ht (fun h => kt ?_) (fun h => kf ?_)
  · first | exact e.mp h | exact fun z => h (e.mpr z) | exact fun z => absurd (e.mpr z) h | (have := e.mp h; omega)
  · first | exact e.mp h | exact fun z => h (e.mpr z) | exact Classical.byContradiction (fun z => h (fun y => z (e.mp y))) | (have : ¬ _ := fun z => h (e.mpr z); omega)
theorem n_icmp_lt (hC : CX G D cc own nL) (pc : Nat) {a b : Nat} {off : Int} (tgt : Nat) (hdg : decode cc pc = .ok (.if_icmp .lt off, 3)) (ht : (pc : Int) + off = (tgt : Int)) (ha : a < 2147483648) (hb : b < 2147483648) (kt : a < b → KJ l G D R nL ce sl ws lv tgt st) (kf : b ≤ a → KJ l G D R nL ce sl ws lv (pc + 3) st) : KJ l G D R nL ce sl ws lv pc (.int (nI b) :: .int (nI a) :: st) := by
  have e := (nI_ltI ha hb)
  refine k_icmp_lt hC pc tgt hdg ht (fun h => kt ?_) (fun h => kf ?_)
  · first | exact e.mp h | exact fun z => h (e.mpr z) | exact fun z => absurd (e.mpr z) h | (have := e.mp h; omega)
  · first | exact e.mp h | exact fun z => h (e.mpr z) | exact Classical.byContradiction (fun z => h (fun y => z (e.mp y))) | (have : ¬ _ := fun z => h (e.mpr z); omega)
theorem n_icmp_ge (hC : CX G D cc own nL) (pc : Nat) {a b : Nat} {off : Int} (tgt : Nat) (hdg : decode cc pc = .ok (.if_icmp .ge off, 3)) (ht : (pc : Int) + off = (tgt : Int)) (ha : a < 2147483648) (hb : b < 2147483648) (kt : b ≤ a → KJ l G D R nL ce sl ws lv tgt st) (kf : a < b → KJ l G D R nL ce sl ws lv (pc + 3) st) : KJ l G D R nL ce sl ws lv pc (.int (nI b) :: .int (nI a) :: st) := by
  have e := (nI_leI hb ha)
  refine k_icmp_ge hC pc tgt hdg ht (fun h => kt ?_) (fun h => kf ?_)
  · first | exact e.mp h | exact fun z => h (e.mpr z) | exact fun z => absurd (e.mpr z) h | (have := e.mp h; omega)
  · first | exact e.mp h | exact fun z => h (e.mpr z) | exact Classical.byContradiction (fun z => h (fun y => z (e.mp y))) | (have : ¬ _ := fun z => h (e.mpr z); omega)
theorem n_icmp_gt (hC : CX G D cc own nL) (pc : Nat) {a b : Nat} {off : Int} (tgt : Nat) (hdg : decode cc pc = .ok (.if_icmp .gt off, 3)) (ht : (pc : Int) + off = (tgt : Int)) (ha : a < 2147483648) (hb : b < 2147483648) (kt : b < a → KJ l G D R nL ce sl ws lv tgt st) (kf : a ≤ b → KJ l G D R nL ce sl ws lv (pc + 3) st) : KJ l G D R nL ce sl ws lv pc (.int (nI b) :: .int (nI a) :: st) := by
  have e := (nI_ltI hb ha)
  refine k_icmp_gt hC pc tgt hdg ht (fun h => kt ?_) (fun h => kf ?_)
  · first | exact e.mp h | exact fun z => h (e.mpr z) | exact fun z => absurd (e.mpr z) h | (have := e.mp h; omega)
  · first | exact e.mp h | exact fun z => h (e.mpr z) | exact Classical.byContradiction (fun z => h (fun y => z (e.mp y))) | (have : ¬ _ := fun z => h (e.mpr z); omega)
theorem n_icmp_le (hC : CX G D cc own nL) (pc : Nat) {a b : Nat} {off : Int} (tgt : Nat) (hdg : decode cc pc = .ok (.if_icmp .le off, 3)) (ht : (pc : Int) + off = (tgt : Int)) (ha : a < 2147483648) (hb : b < 2147483648) (kt : a ≤ b → KJ l G D R nL ce sl ws lv tgt st) (kf : b < a → KJ l G D R nL ce sl ws lv (pc + 3) st) : KJ l G D R nL ce sl ws lv pc (.int (nI b) :: .int (nI a) :: st) := by
  have e := (nI_leI ha hb)
  refine k_icmp_le hC pc tgt hdg ht (fun h => kt ?_) (fun h => kf ?_)
  · first | exact e.mp h | exact fun z => h (e.mpr z) | exact fun z => absurd (e.mpr z) h | (have := e.mp h; omega)
  · first | exact e.mp h | exact fun z => h (e.mpr z) | exact Classical.byContradiction (fun z => h (fun y => z (e.mp y))) | (have : ¬ _ := fun z => h (e.mpr z); omega)
theorem n_if_eq (hC : CX G D cc own nL) (pc : Nat) {a : Nat} {off : Int} (tgt : Nat) (hdg : decode cc pc = .ok (.ifCond .eq off, 3)) (ht : (pc : Int) + off = (tgt : Int)) (ha : a < 2147483648) (kt : a = 0 → KJ l G D R nL ce sl ws lv tgt st) (kf : ¬ a = 0 → KJ l G D R nL ce sl ws lv (pc + 3) st) : KJ l G D R nL ce sl ws lv pc (.int (nI a) :: st) := by
  have e1 : nI a = 0 ↔ a = 0 := by rw [← nI_0]; exact nI_eq ha (by omega)
  have e2 : nI a ≤ 0 ↔ a ≤ 0 := by rw [← nI_0]; exact nI_leI ha (by omega)
  have e3 : (0 : Int32) < nI a ↔ 0 < a := by rw [← nI_0]; exact nI_ltI (by omega) ha
  have e4 : (0 : Int32) ≤ nI a ↔ 0 ≤ a := by rw [← nI_0]; exact nI_leI (by omega) ha
  have e5 : nI a < 0 ↔ a < 0 := by rw [← nI_0]; exact nI_ltI ha (by omega)
  refine k_if_eq hC pc tgt hdg ht (fun h => kt ?_) (fun h => kf ?_)
  · first | trivial | exact e1.mp h | exact e3.mp h | exact e5.mp h | exact fun z => h (e1.mpr z) | (have := e2.mp h; omega) | (have := e5.mp h; omega) | (have := e4.mp h; omega)
  · first | trivial | exact e1.mp h | exact e3.mp h | exact fun z => h (e1.mpr z) | exact Classical.byContradiction (fun z => h (fun y => z (e1.mp y))) | exact h (e4.mpr (Nat.zero_le _)) | (have z : ¬ _ := fun z => h (e3.mpr z); omega) | (have z : ¬ _ := fun z => h (e2.mpr z); omega)
theorem n_if_ne (hC : CX G D cc own nL) (pc : Nat) {a : Nat} {off : Int} (tgt : Nat) (hdg : decode cc pc = .ok (.ifCond .ne off, 3)) (ht : (pc : Int) + off = (tgt : Int)) (ha : a < 2147483648) (kt : ¬ a = 0 → KJ l G D R nL ce sl ws lv tgt st) (kf : a = 0 → KJ l G D R nL ce sl ws lv (pc + 3) st) : KJ l G D R nL ce sl ws lv pc (.int (nI a) :: st) := by
  have e1 : nI a = 0 ↔ a = 0 := by rw [← nI_0]; exact nI_eq ha (by omega)
  have e2 : nI a ≤ 0 ↔ a ≤ 0 := by rw [← nI_0]; exact nI_leI ha (by omega)
  have e3 : (0 : Int32) < nI a ↔ 0 < a := by rw [← nI_0]; exact nI_ltI (by omega) ha
  have e4 : (0 : Int32) ≤ nI a ↔ 0 ≤ a := by rw [← nI_0]; exact nI_leI (by omega) ha
  have e5 : nI a < 0 ↔ a < 0 := by rw [← nI_0]; exact nI_ltI ha (by omega)
  refine k_if_ne hC pc tgt hdg ht (fun h => kt ?_) (fun h => kf ?_)
  · first | trivial | exact e1.mp h | exact e3.mp h | exact e5.mp h | exact fun z => h (e1.mpr z) | (have := e2.mp h; omega) | (have := e5.mp h; omega) | (have := e4.mp h; omega)
  · first | trivial | exact e1.mp h | exact e3.mp h | exact fun z => h (e1.mpr z) | exact Classical.byContradiction (fun z => h (fun y => z (e1.mp y))) | exact h (e4.mpr (Nat.zero_le _)) | (have z : ¬ _ := fun z => h (e3.mpr z); omega) | (have z : ¬ _ := fun z => h (e2.mpr z); omega)
theorem n_if_gt (hC : CX G D cc own nL) (pc : Nat) {a : Nat} {off : Int} (tgt : Nat) (hdg : decode cc pc = .ok (.ifCond .gt off, 3)) (ht : (pc : Int) + off = (tgt : Int)) (ha : a < 2147483648) (kt : 0 < a → KJ l G D R nL ce sl ws lv tgt st) (kf : a = 0 → KJ l G D R nL ce sl ws lv (pc + 3) st) : KJ l G D R nL ce sl ws lv pc (.int (nI a) :: st) := by
  have e1 : nI a = 0 ↔ a = 0 := by rw [← nI_0]; exact nI_eq ha (by omega)
  have e2 : nI a ≤ 0 ↔ a ≤ 0 := by rw [← nI_0]; exact nI_leI ha (by omega)
  have e3 : (0 : Int32) < nI a ↔ 0 < a := by rw [← nI_0]; exact nI_ltI (by omega) ha
  have e4 : (0 : Int32) ≤ nI a ↔ 0 ≤ a := by rw [← nI_0]; exact nI_leI (by omega) ha
  have e5 : nI a < 0 ↔ a < 0 := by rw [← nI_0]; exact nI_ltI ha (by omega)
  refine k_if_gt hC pc tgt hdg ht (fun h => kt ?_) (fun h => kf ?_)
  · first | trivial | exact e1.mp h | exact e3.mp h | exact e5.mp h | exact fun z => h (e1.mpr z) | (have := e2.mp h; omega) | (have := e5.mp h; omega) | (have := e4.mp h; omega)
  · first | trivial | exact e1.mp h | exact e3.mp h | exact fun z => h (e1.mpr z) | exact Classical.byContradiction (fun z => h (fun y => z (e1.mp y))) | exact h (e4.mpr (Nat.zero_le _)) | (have z : ¬ _ := fun z => h (e3.mpr z); omega) | (have z : ¬ _ := fun z => h (e2.mpr z); omega)
theorem n_if_le (hC : CX G D cc own nL) (pc : Nat) {a : Nat} {off : Int} (tgt : Nat) (hdg : decode cc pc = .ok (.ifCond .le off, 3)) (ht : (pc : Int) + off = (tgt : Int)) (ha : a < 2147483648) (kt : a = 0 → KJ l G D R nL ce sl ws lv tgt st) (kf : 0 < a → KJ l G D R nL ce sl ws lv (pc + 3) st) : KJ l G D R nL ce sl ws lv pc (.int (nI a) :: st) := by
  have e1 : nI a = 0 ↔ a = 0 := by rw [← nI_0]; exact nI_eq ha (by omega)
  have e2 : nI a ≤ 0 ↔ a ≤ 0 := by rw [← nI_0]; exact nI_leI ha (by omega)
  have e3 : (0 : Int32) < nI a ↔ 0 < a := by rw [← nI_0]; exact nI_ltI (by omega) ha
  have e4 : (0 : Int32) ≤ nI a ↔ 0 ≤ a := by rw [← nI_0]; exact nI_leI (by omega) ha
  have e5 : nI a < 0 ↔ a < 0 := by rw [← nI_0]; exact nI_ltI ha (by omega)
  refine k_if_le hC pc tgt hdg ht (fun h => kt ?_) (fun h => kf ?_)
  · first | trivial | exact e1.mp h | exact e3.mp h | exact e5.mp h | exact fun z => h (e1.mpr z) | (have := e2.mp h; omega) | (have := e5.mp h; omega) | (have := e4.mp h; omega)
  · first | trivial | exact e1.mp h | exact e3.mp h | exact fun z => h (e1.mpr z) | exact Classical.byContradiction (fun z => h (fun y => z (e1.mp y))) | exact h (e4.mpr (Nat.zero_le _)) | (have z : ¬ _ := fun z => h (e3.mpr z); omega) | (have z : ¬ _ := fun z => h (e2.mpr z); omega)
theorem n_if_lt (hC : CX G D cc own nL) (pc : Nat) {a : Nat} {off : Int} (tgt : Nat) (hdg : decode cc pc = .ok (.ifCond .lt off, 3)) (ht : (pc : Int) + off = (tgt : Int)) (ha : a < 2147483648) (kt : False → KJ l G D R nL ce sl ws lv tgt st) (kf : True → KJ l G D R nL ce sl ws lv (pc + 3) st) : KJ l G D R nL ce sl ws lv pc (.int (nI a) :: st) := by
  have e1 : nI a = 0 ↔ a = 0 := by rw [← nI_0]; exact nI_eq ha (by omega)
  have e2 : nI a ≤ 0 ↔ a ≤ 0 := by rw [← nI_0]; exact nI_leI ha (by omega)
  have e3 : (0 : Int32) < nI a ↔ 0 < a := by rw [← nI_0]; exact nI_ltI (by omega) ha
  have e4 : (0 : Int32) ≤ nI a ↔ 0 ≤ a := by rw [← nI_0]; exact nI_leI (by omega) ha
  have e5 : nI a < 0 ↔ a < 0 := by rw [← nI_0]; exact nI_ltI ha (by omega)
  refine k_if_lt hC pc tgt hdg ht (fun h => kt ?_) (fun h => kf ?_)
  · first | trivial | exact e1.mp h | exact e3.mp h | exact e5.mp h | exact fun z => h (e1.mpr z) | (have := e2.mp h; omega) | (have := e5.mp h; omega) | (have := e4.mp h; omega)
  · first | trivial | exact e1.mp h | exact e3.mp h | exact fun z => h (e1.mpr z) | exact Classical.byContradiction (fun z => h (fun y => z (e1.mp y))) | exact h (e4.mpr (Nat.zero_le _)) | (have z : ¬ _ := fun z => h (e3.mpr z); omega) | (have z : ¬ _ := fun z => h (e2.mpr z); omega)
theorem n_if_ge (hC : CX G D cc own nL) (pc : Nat) {a : Nat} {off : Int} (tgt : Nat) (hdg : decode cc pc = .ok (.ifCond .ge off, 3)) (ht : (pc : Int) + off = (tgt : Int)) (ha : a < 2147483648) (kt : True → KJ l G D R nL ce sl ws lv tgt st) (kf : False → KJ l G D R nL ce sl ws lv (pc + 3) st) : KJ l G D R nL ce sl ws lv pc (.int (nI a) :: st) := by
  have e1 : nI a = 0 ↔ a = 0 := by rw [← nI_0]; exact nI_eq ha (by omega)
  have e2 : nI a ≤ 0 ↔ a ≤ 0 := by rw [← nI_0]; exact nI_leI ha (by omega)
  have e3 : (0 : Int32) < nI a ↔ 0 < a := by rw [← nI_0]; exact nI_ltI (by omega) ha
  have e4 : (0 : Int32) ≤ nI a ↔ 0 ≤ a := by rw [← nI_0]; exact nI_leI (by omega) ha
  have e5 : nI a < 0 ↔ a < 0 := by rw [← nI_0]; exact nI_ltI ha (by omega)
  refine k_if_ge hC pc tgt hdg ht (fun h => kt ?_) (fun h => kf ?_)
  · first | trivial | exact e1.mp h | exact e3.mp h | exact e5.mp h | exact fun z => h (e1.mpr z) | (have := e2.mp h; omega) | (have := e5.mp h; omega) | (have := e4.mp h; omega)
  · first | trivial | exact e1.mp h | exact e3.mp h | exact fun z => h (e1.mpr z) | exact Classical.byContradiction (fun z => h (fun y => z (e1.mp y))) | exact h (e4.mpr (Nat.zero_le _)) | (have z : ¬ _ := fun z => h (e3.mpr z); omega) | (have z : ¬ _ := fun z => h (e2.mpr z); omega)
theorem n_iald (hC : CX G D cc own nL) (pc : Nat) {a n i : Nat} {f : Nat → Int32} (q0 : Nat) (v : Int32) (hdg : decode cc pc = .ok (.iaload, 1)) (ha : ws[q0]? = some (a, .inl (D.1 5, n, .inl f))) (hi : i < n) (hn : n < 2147483648) (hv : f i = v) (kk : KJ l G D R nL ce sl ws lv (pc + 1) (.int v :: st)) : KJ l G D R nL ce sl ws lv pc (.int (nI i) :: .ref a :: st) := k_iald hC pc q0 hdg ha (vp_in_nI hi hn) (by rw [nI_clamp (by omega), hv]; exact kk)
theorem n_iast (hC : CX G D cc own nL) (pc : Nat) {a n i : Nat} {f : Nat → Int32} {x : Int32} (q0 : Nat) (ws' : va_W) (hdg : decode cc pc = .ok (.iastore, 1)) (ha : ws[q0]? = some (a, .inl (D.1 5, n, .inl f))) (hi : i < n) (hn : n < 2147483648) (hws : ws.set q0 (a, .inl (D.1 5, n, .inl (upd f i x))) = ws') (kk : KJ l G D R nL ce sl ws' lv (pc + 1) st) : KJ l G D R nL ce sl ws lv pc (.int x :: .int (nI i) :: .ref a :: st) := k_iast hC pc q0 ws' hdg ha (vp_in_nI hi hn) (by rw [nI_clamp (by omega)]; exact hws) kk
theorem n_lald (hC : CX G D cc own nL) (pc : Nat) {a n i : Nat} {f : Nat → Int64} (q0 : Nat) (v : Int64) (hdg : decode cc pc = .ok (.laload, 1)) (ha : ws[q0]? = some (a, .inl (D.1 6, n, .inr (.inl f)))) (hi : i < n) (hn : n < 2147483648) (hv : f i = v) (kk : KJ l G D R nL ce sl ws lv (pc + 1) (.long v :: st)) : KJ l G D R nL ce sl ws lv pc (.int (nI i) :: .ref a :: st) := k_lald hC pc q0 hdg ha (vp_in_nI hi hn) (by rw [nI_clamp (by omega), hv]; exact kk)
theorem n_last (hC : CX G D cc own nL) (pc : Nat) {a n i : Nat} {f : Nat → Int64} {x : Int64} (q0 : Nat) (ws' : va_W) (hdg : decode cc pc = .ok (.lastore, 1)) (ha : ws[q0]? = some (a, .inl (D.1 6, n, .inr (.inl f)))) (hi : i < n) (hn : n < 2147483648) (hws : ws.set q0 (a, .inl (D.1 6, n, .inr (.inl (vp_updL f i x)))) = ws') (kk : KJ l G D R nL ce sl ws' lv (pc + 1) st) : KJ l G D R nL ce sl ws lv pc (.long x :: .int (nI i) :: .ref a :: st) := k_last hC pc q0 ws' hdg ha (vp_in_nI hi hn) (by rw [nI_clamp (by omega)]; exact hws) kk
theorem n_iadd (hC : CX G D cc own nL) (pc : Nat) {a b : Nat} (v : Nat) (hdg : decode cc pc = .ok (.iadd, 1)) (hv : a + b = v) (k : KJ l G D R nL ce sl ws lv (pc + 1) (.int (nI v) :: st)) : KJ l G D R nL ce sl ws lv pc (.int (nI b) :: .int (nI a) :: st) := k_iadd hC pc hdg (KJ.topi ((nI_add a b).trans (by rw [hv])) k)
theorem n_imul (hC : CX G D cc own nL) (pc : Nat) {a b : Nat} (v : Nat) (hdg : decode cc pc = .ok (.imul, 1)) (hv : a * b = v) (k : KJ l G D R nL ce sl ws lv (pc + 1) (.int (nI v) :: st)) : KJ l G D R nL ce sl ws lv pc (.int (nI b) :: .int (nI a) :: st) := k_imul hC pc hdg (KJ.topi ((pk_mul a b).trans (by rw [hv])) k)
theorem n_isub (hC : CX G D cc own nL) (pc : Nat) {a b : Nat} (v : Nat) (hdg : decode cc pc = .ok (.isub, 1)) (h : b ≤ a) (hv : a - b = v) (k : KJ l G D R nL ce sl ws lv (pc + 1) (.int (nI v) :: st)) : KJ l G D R nL ce sl ws lv pc (.int (nI b) :: .int (nI a) :: st) := k_isub hC pc hdg (KJ.topi ((pk_sub h).trans (by rw [hv])) k)
end KN
end
section
/-! LISTS OF KINDS AND WHAT ROWS OF NUMBERS HOLD OF THEM -/
def RowL (L : List Nat) (f : Nat → Int32) : Prop := ∀ i : Nat, i < L.length → f i = nI (L.getD i 0)
def KL (L : List Nat) : Prop := ∀ k ∈ L, k < 40
theorem KL.g {L : List Nat} (h : KL L) (i : Nat) : L.getD i 0 < 40 := by
  by_cases hi : i < L.length
  · rw [List.getD_eq_getElem?_getD, List.getElem?_eq_getElem hi]
    exact h _ (List.getElem_mem hi)
  · rw [List.getD_eq_getElem?_getD, List.getElem?_eq_none (by omega)]
    decide
theorem RowL.nil {f : Nat → Int32} : RowL [] f := fun i h => absurd h (Nat.not_lt_zero i)
theorem RowL.of {L : List Nat} {f g : Nat → Int32} (h : RowL L f) (e : ∀ i : Nat, i < L.length → g i = f i) : RowL L g := fun i hi => (e i hi).trans (h i hi)
theorem ix_found : ∀ {L : List Nat} {i k : Nat}, i < L.length → L.getD i 0 = k → (∀ j : Nat, j < i → ¬ L.getD j 0 = k) → k ∈ L ∧ L.idxOf k = i
  | [], i, k, hi, _, _ => absurd hi (Nat.not_lt_zero i)
  | a :: t, 0, k, _, h, _ => by
    have e : a = k := by simpa using h
    subst e
    exact ⟨List.mem_cons_self, List.idxOf_cons_self⟩
  | a :: t, i + 1, k, hi, h, hb => by
    have ha : ¬ a = k := by simpa using hb 0 (Nat.succ_pos i)
    obtain ⟨h1, h2⟩ := ix_found (L := t) (i := i) (k := k) (by simpa using hi) (by simpa using h) (fun j hj => by simpa using hb (j + 1) (Nat.succ_lt_succ hj))
    refine ⟨List.mem_cons_of_mem _ h1, ?_⟩
    rw [List.idxOf_cons, h2, show (a == k) = false from beq_false_of_ne ha]
    rfl
theorem ix_none {L : List Nat} {k : Nat} (hb : ∀ j : Nat, j < L.length → ¬ L.getD j 0 = k) : k ∉ L := by
  intro h
  obtain ⟨j, hj, e⟩ := List.getElem_of_mem h
  refine hb j hj ?_
  rw [List.getD_eq_getElem?_getD, List.getElem?_eq_getElem hj]
  exact e
def ixv (L : List Nat) (k : Nat) : Int32 := if k ∈ L then nI (L.idxOf k) else -1
theorem ixv_in {L : List Nat} {k : Nat} (h : k ∈ L) : ixv L k = nI (L.idxOf k) := if_pos h
theorem ixv_out {L : List Nat} {k : Nat} (h : k ∉ L) : ixv L k = -1 := if_neg h
theorem nI_m1 {n : Nat} (h : n < 2147483648) : nI n ≠ -1 := fun e => by
  have := congrArg Int32.toInt e
  rw [nI_toInt h] at this
  have h2 : (-1 : Int32).toInt = -1 := by decide
  omega
theorem ixv_m1 {L : List Nat} {k : Nat} (hL : L.length ≤ 40) : ixv L k = -1 ↔ k ∉ L := by
  refine ⟨fun e h => ?_, ixv_out⟩
  rw [ixv_in h] at e
  have := List.idxOf_lt_length_of_mem h
  exact nI_m1 (by omega) e
/-- a yes or no as a number -/
def yn (p : Prop) [Decidable p] : Nat := if p then 1 else 0
theorem yn_t {p : Prop} [Decidable p] (h : p) : yn p = 1 := if_pos h
theorem yn_f {p : Prop} [Decidable p] (h : ¬ p) : yn p = 0 := if_neg h
theorem yn_le {p : Prop} [Decidable p] : yn p ≤ 1 := by unfold yn; split <;> omega
theorem yn_0 {p : Prop} [Decidable p] : yn p = 0 ↔ ¬ p := by unfold yn; split <;> simp [*]
theorem upd_s (f : Nat → Int32) (k : Nat) (x : Int32) : upd f k x k = x := pk_us
theorem upd_n {f : Nat → Int32} {k j : Nat} {x : Int32} (h : j ≠ k) : upd f k x j = f j := pk_un h
theorem RowL.push {L : List Nat} {f : Nat → Int32} (h : RowL L f) (k : Nat) : RowL (L ++ [k]) (upd f L.length (nI k)) := by
  intro i hi
  rw [List.length_append, List.length_singleton] at hi
  by_cases e : i = L.length
  · subst e
    rw [upd_s]
    simp
  · rw [upd_n e, h i (by omega)]
    simp [List.getD_eq_getElem?_getD, List.getElem?_append_left (show i < L.length by omega)]
theorem KL.push {L : List Nat} {k : Nat} (h : KL L) (hk : k < 40) : KL (L ++ [k]) := fun x hx => (List.mem_append.mp hx).elim (h x) (fun h2 => by rw [List.mem_singleton.mp h2]; exact hk)
/-- a row from whose place p one was taken, as far as i -/
def shf (f : Nat → Int32) (p i : Nat) : Nat → Int32 := fun j => if p ≤ j ∧ j + 1 < i then f (j + 1) else f j
theorem shf_0 (f : Nat → Int32) (p : Nat) : shf f p (p + 1) = f := by
  funext j
  unfold shf
  rw [if_neg (by omega)]
theorem shf_at (f : Nat → Int32) (p i : Nat) : shf f p i i = f i := by
  unfold shf
  rw [if_neg (by omega)]
theorem shf_step {f : Nat → Int32} {p i : Nat} (h : p < i) : upd (shf f p i) (i - 1) (f i) = shf f p (i + 1) := by
  funext j
  by_cases e : j = i - 1
  · subst e
    rw [upd_s]
    unfold shf
    rw [if_pos (by omega), show i - 1 + 1 = i by omega]
  · rw [upd_n e]
    unfold shf
    by_cases h1 : p ≤ j ∧ j + 1 < i
    · rw [if_pos h1, if_pos (by omega)]
    · rw [if_neg h1, if_neg (by omega)]
theorem RowL.cut {L : List Nat} {f : Nat → Int32} (h : RowL L f) {p : Nat} (hp : p < L.length) : RowL (L.eraseIdx p) (shf f p L.length) := by
  intro i hi
  rw [List.length_eraseIdx_of_lt hp] at hi
  rw [List.getD_eq_getElem?_getD, List.getElem?_eraseIdx]
  unfold shf
  by_cases h1 : i < p
  · rw [if_neg (by omega), h i (by omega), if_pos h1, List.getD_eq_getElem?_getD]
  · rw [if_pos (by omega), h (i + 1) (by omega), if_neg h1, List.getD_eq_getElem?_getD]
theorem KL.cut {L : List Nat} (h : KL L) (p : Nat) : KL (L.eraseIdx p) := fun x hx => h x (List.mem_of_mem_eraseIdx hx)
theorem KL.drop {L : List Nat} (h : KL L) (p : Nat) : KL (L.drop p) := fun x hx => h x (List.mem_of_mem_drop hx)
theorem drop_e0 (L : List Nat) (j : Nat) : (L.drop j).eraseIdx 0 = L.drop (j + 1) := by rw [List.eraseIdx_zero, List.tail_drop]
/-- digests of kinds -/
def dks (d : Int64) (L : List Nat) : Int64 := L.foldl (fun d k => d * 31 + (nI k).toInt64) d
theorem take_s {L : List Nat} {i : Nat} (h : i < L.length) : L.take (i + 1) = L.take i ++ [L.getD i 0] := by
  rw [List.take_add_one, List.getD_eq_getElem?_getD, List.getElem?_eq_getElem h]
  rfl
theorem dks_s {L : List Nat} {i : Nat} (d : Int64) (h : i < L.length) : dks d (L.take (i + 1)) = dks d (L.take i) * 31 + (nI (L.getD i 0)).toInt64 := by
  unfold dks
  rw [take_s h, List.foldl_append]
  rfl
/-- a copy, as far as i -/
def cpf (g f : Nat → Int32) (i : Nat) : Nat → Int32 := fun j => if j < i then g j else f j
theorem cpf_0 (g f : Nat → Int32) : cpf g f 0 = f := by
  funext j
  unfold cpf
  rw [if_neg (by omega)]
theorem cpf_step (g f : Nat → Int32) (i : Nat) : upd (cpf g f i) i (g i) = cpf g f (i + 1) := by
  funext j
  by_cases e : j = i
  · subst e
    rw [upd_s]
    unfold cpf
    rw [if_pos (by omega)]
  · rw [upd_n e]
    unfold cpf
    by_cases h : j < i
    · rw [if_pos h, if_pos (by omega)]
    · rw [if_neg h, if_neg (by omega)]
theorem cpf_in {g f : Nat → Int32} {i j : Nat} (h : j < i) : cpf g f i j = g j := if_pos h
end
section
/-! PinnedPantry$Row: a list of kinds -/
set_option maxHeartbeats 4000000 in
set_option maxRecDepth 100000 in
/-- Row() -/
theorem c_X0_init (l : Launch) (D : va_G) (r : Nat)  : MU l yX0_init cX0_init 1 none 1 12 D [.ref r] [(r, .inr (0, [.null, .int (nI 0)]))] (fun v (_ : Nat) => v = none) (fun q => [(r, .inr (0, [.ref q, .int (nI (([] : List Nat).length))])), (q, .inl (D.1 5, 40, .inl (fun _ => 0)))]) 1 40 := by
  refine MU.enter (by decide) [(0, .ref r)] rfl (Nat.le_of_ble_eq_true rfl) (fun G hC hE => ?_)
  have hC : CX G D cX0_init RX0 1 := hC
  refine k_aload_n hC 0 dX0_init_0 rfl ?_
  refine k_objInit hC 1 dX0_init_1 wq_2_15 wq_1_11 wq_1_12 ⟨Nat.le_of_ble_eq_true rfl, Nat.le_of_ble_eq_true rfl⟩ ?_
  refine k_aload_n hC 4 dX0_init_4 rfl ?_
  refine k_bipush hC 5 dX0_init_5 (nI 40) (by decide) ?_
  refine k_newarrI hC 7 40 dX0_init_7 (by decide) (by decide) ⟨Nat.le_of_ble_eq_true rfl, Nat.le_of_ble_eq_true rfl⟩ (fun q => ?_)
  refine KJ.eqw (ws' := [(r, .inr (0, [.null, .int (nI 0)])), (q, .inl (D.1 5, 40, .inl (fun _ => 0)))]) rfl ?_
  refine k_putfF hC 9 (ty0 := tyX0) 0 0 [(r, .inr (0, [.ref q, .int (nI 0)])), (q, .inl (D.1 5, 40, .inl (fun _ => 0)))] dX0_init_9 rfl rfl inlX0 tyX0_ok nmX0 (by decide) wq_2_17 rfl hE.2.2.2.2 rfl rfl rfl (Nat.le_of_ble_eq_true rfl) rfl ?_
  refine k_aload_n hC 12 dX0_init_12 rfl ?_
  refine k_iconst hC 13 dX0_init_13 (nI 0) (by decide) ?_
  refine k_putf hC 14 (ty0 := tyX0) 0 1 [(r, .inr (0, [.ref q, .int (nI 0)])), (q, .inl (D.1 5, 40, .inl (fun _ => 0)))] dX0_init_14 rfl rfl inlX0 tyX0_ok nmX0 (by decide) wq_2_18 rfl rfl rfl (Nat.le_of_ble_eq_true rfl) rfl ?_
  exact k_vret hC hE 17 q dX0_init_17 rfl rfl ⟨Nat.le_of_ble_eq_true rfl, Nat.le_of_ble_eq_true rfl⟩
set_option maxHeartbeats 4000000 in
set_option maxRecDepth 100000 in
/-- Row.at -/
theorem c_X0_at (l : Launch) (D : va_G) (r q : Nat) (L : List Nat) (f : Nat → Int32) (x : Int32) (hR : RowL L f) (hL : L.length ≤ 40) (hK : KL L) : MU l yX0_at cX0_at 2 (some .int) 0 0 D [.ref r, .int x] [(r, .inr (0, [.ref q, .int (nI L.length)])), (q, .inl (D.1 5, 40, .inl f))] (fun v (_ : Unit) => (∃ i : Nat, i < L.length ∧ x = nI i ∧ v = some (.int (nI (L.getD i 0)))) ∨ ((∀ i : Nat, i < L.length → x ≠ nI i) ∧ v = some (.int (-1)))) (fun _ => [(r, .inr (0, [.ref q, .int (nI L.length)])), (q, .inl (D.1 5, 40, .inl f))]) 0 0 := by
  refine MU.enter (by decide) [(0, .ref r), (1, .int x)] rfl (Nat.le_of_ble_eq_true rfl) (fun G hC hE => ?_)
  have hC : CX G D cX0_at RX0 2 := hC
  refine k_iload_n hC 0 dX0_at_0 rfl ?_
  refine k_if_lt hC 1 30 dX0_at_1 (by decide) (fun h1 => ?_) (fun h1 => ?_)
  · skip
    refine k_iconst hC 30 dX0_at_30 (-1) (by decide) ?_
    exact k_iret hC hE 31 () dX0_at_31 rfl (Or.inr ⟨(fun i hi e => absurd h1 (by rw [e]; exact nI_pos (by omega))), rfl⟩) rfl ⟨Nat.zero_le _, Nat.zero_le _⟩
  · skip
    obtain ⟨i, hi, rfl⟩ := nI_of h1
    refine k_iload_n hC 4 dX0_at_4 rfl ?_
    refine k_aload_n hC 5 dX0_at_5 rfl ?_
    refine k_getf hC 6 0 1 dX0_at_6 rfl rfl inlX0 (by decide) wq_2_18 rfl ?_
    refine n_icmp_ge hC 9 30 dX0_at_9 (by decide) (by omega) (by omega) (fun h9 => ?_) (fun h9 => ?_)
    · skip
      refine k_iconst hC 30 dX0_at_30 (-1) (by decide) ?_
      exact k_iret hC hE 31 () dX0_at_31 rfl (Or.inr ⟨(fun j hj e => absurd ((nI_eq (by omega) (by omega)).mp e) (by omega)), rfl⟩) rfl ⟨Nat.zero_le _, Nat.zero_le _⟩
    · skip
      refine k_iload_n hC 12 dX0_at_12 rfl ?_
      refine k_aload_n hC 13 dX0_at_13 rfl ?_
      refine k_getf hC 14 0 0 dX0_at_14 rfl rfl inlX0 (by decide) wq_2_17 rfl ?_
      refine k_alen hC 17 1 0 (nI 40) dX0_at_17 rfl rfl rfl ?_
      refine n_icmp_ge hC 18 30 dX0_at_18 (by decide) (by omega) (by omega) (fun h18 => ?_) (fun h18 => ?_)
      · skip
        exact absurd h9 (by omega)
      · skip
        refine k_aload_n hC 21 dX0_at_21 rfl ?_
        refine k_getf hC 22 0 0 dX0_at_22 rfl rfl inlX0 (by decide) wq_2_17 rfl ?_
        refine k_iload_n hC 25 dX0_at_25 rfl ?_
        refine n_iald hC 26 1 (nI (L.getD i 0)) dX0_at_26 rfl (by omega) (by decide) (hR i (by omega)) ?_
        refine k_goto hC 27 31 dX0_at_27 (by decide) ?_
        exact k_iret hC hE 31 () dX0_at_31 rfl (Or.inl ⟨i, h9, rfl, rfl⟩) rfl ⟨Nat.zero_le _, Nat.zero_le _⟩
set_option maxHeartbeats 4000000 in
set_option maxRecDepth 100000 in
/-- Row.at, a place that is there -/
theorem c_X0_at_in (l : Launch) (D : va_G) (r q : Nat) (L : List Nat) (f : Nat → Int32) (i : Nat) (hR : RowL L f) (hL : L.length ≤ 40) (hK : KL L) (hi : i < L.length) : MU l yX0_at cX0_at 2 (some .int) 0 0 D [.ref r, .int (nI i)] [(r, .inr (0, [.ref q, .int (nI L.length)])), (q, .inl (D.1 5, 40, .inl f))] (fun v (_ : Unit) => v = some (.int (nI (L.getD i 0)))) (fun _ => [(r, .inr (0, [.ref q, .int (nI L.length)])), (q, .inl (D.1 5, 40, .inl f))]) 0 0 := by
  refine MU.enter (by decide) [(0, .ref r), (1, .int (nI i))] rfl (Nat.le_of_ble_eq_true rfl) (fun G hC hE => ?_)
  have hC : CX G D cX0_at RX0 2 := hC
  refine k_iload_n hC 0 dX0_at_0 rfl ?_
  refine n_if_lt hC 1 30 dX0_at_1 (by decide) (by omega) (fun h1 => ?_) (fun h1 => ?_)
  · skip
    exact h1.elim
  · skip
    refine k_iload_n hC 4 dX0_at_4 rfl ?_
    refine k_aload_n hC 5 dX0_at_5 rfl ?_
    refine k_getf hC 6 0 1 dX0_at_6 rfl rfl inlX0 (by decide) wq_2_18 rfl ?_
    refine n_icmp_ge hC 9 30 dX0_at_9 (by decide) (by omega) (by omega) (fun h9 => ?_) (fun h9 => ?_)
    · skip
      exact absurd h9 (by omega)
    · skip
      refine k_iload_n hC 12 dX0_at_12 rfl ?_
      refine k_aload_n hC 13 dX0_at_13 rfl ?_
      refine k_getf hC 14 0 0 dX0_at_14 rfl rfl inlX0 (by decide) wq_2_17 rfl ?_
      refine k_alen hC 17 1 0 (nI 40) dX0_at_17 rfl rfl rfl ?_
      refine n_icmp_ge hC 18 30 dX0_at_18 (by decide) (by omega) (by omega) (fun h18 => ?_) (fun h18 => ?_)
      · skip
        exact absurd h18 (by omega)
      · skip
        refine k_aload_n hC 21 dX0_at_21 rfl ?_
        refine k_getf hC 22 0 0 dX0_at_22 rfl rfl inlX0 (by decide) wq_2_17 rfl ?_
        refine k_iload_n hC 25 dX0_at_25 rfl ?_
        refine n_iald hC 26 1 (nI (L.getD i 0)) dX0_at_26 rfl (by omega) (by decide) (hR i (by omega)) ?_
        refine k_goto hC 27 31 dX0_at_27 (by decide) ?_
        exact k_iret hC hE 31 () dX0_at_31 rfl rfl rfl ⟨Nat.zero_le _, Nat.zero_le _⟩
set_option maxHeartbeats 4000000 in
set_option maxRecDepth 100000 in
/-- Row.placeOf -/
theorem c_X0_placeOf (l : Launch) (D : va_G) (r q : Nat) (L : List Nat) (f : Nat → Int32) (k : Nat) (hR : RowL L f) (hL : L.length ≤ 40) (hK : KL L) (hk : k < 40) : MU l yX0_placeOf cX0_placeOf 3 (some .int) 0 0 D [.ref r, .int (nI k)] [(r, .inr (0, [.ref q, .int (nI L.length)])), (q, .inl (D.1 5, 40, .inl f))] (fun v (_ : Unit) => v = some (.int (ixv L k))) (fun _ => [(r, .inr (0, [.ref q, .int (nI L.length)])), (q, .inl (D.1 5, 40, .inl f))]) 0 0 := by
  refine MU.enter (by decide) [(0, .ref r), (1, .int (nI k))] rfl (Nat.le_of_ble_eq_true rfl) (fun G hC hE => ?_)
  have hC : CX G D cX0_placeOf RX0 3 := hC
  refine k_iconst hC 0 dX0_placeOf_0 (nI 0) (by decide) ?_
  refine k_istore_n hC 1 2 [(2, .int (nI 0)), (0, .ref r), (1, .int (nI k))] dX0_placeOf_1 rfl (by decide) rfl ?_
  have loop2 : ∀ (n2 : Nat) (i : Nat), L.length - i < n2 → i ≤ L.length → (∀ j : Nat, j < i → ¬ L.getD j 0 = k) → KJ l G D ({ frames := 0, cells := 0, slots := 0, locals := 0 } : Room) 3 0 0 [(r, .inr (0, [.ref q, .int (nI L.length)])), (q, .inl (D.1 5, 40, .inl f))] [(2, .int (nI i)), (0, .ref r), (1, .int (nI k))] 2 [] := by
    intro n2
    induction n2 with
    | zero => intro i h; exact absurd h (Nat.not_lt_zero _)
    | succ n2 ih2 =>
      intro i hn2 hi hb
      have hg := hK.g i
      refine k_iload_n hC 2 dX0_placeOf_2 rfl ?_
      refine k_aload_n hC 3 dX0_placeOf_3 rfl ?_
      refine k_getf hC 4 0 1 dX0_placeOf_4 rfl rfl inlX0 (by decide) wq_2_18 rfl ?_
      refine n_icmp_ge hC 7 37 dX0_placeOf_7 (by decide) (by omega) (by omega) (fun h7 => ?_) (fun h7 => ?_)
      · skip
        refine k_iconst hC 37 dX0_placeOf_37 (-1) (by decide) ?_
        exact k_iret hC hE 38 () dX0_placeOf_38 rfl (by rw [ixv, if_neg (ix_none (fun j hj => hb j (by omega)))]) rfl ⟨Nat.zero_le _, Nat.zero_le _⟩
      · skip
        refine k_iload_n hC 10 dX0_placeOf_10 rfl ?_
        refine k_aload_n hC 11 dX0_placeOf_11 rfl ?_
        refine k_getf hC 12 0 0 dX0_placeOf_12 rfl rfl inlX0 (by decide) wq_2_17 rfl ?_
        refine k_alen hC 15 1 0 (nI 40) dX0_placeOf_15 rfl rfl rfl ?_
        refine n_icmp_ge hC 16 37 dX0_placeOf_16 (by decide) (by omega) (by omega) (fun h16 => ?_) (fun h16 => ?_)
        · skip
          exact absurd h16 (by omega)
        · skip
          refine k_aload_n hC 19 dX0_placeOf_19 rfl ?_
          refine k_getf hC 20 0 0 dX0_placeOf_20 rfl rfl inlX0 (by decide) wq_2_17 rfl ?_
          refine k_iload_n hC 23 dX0_placeOf_23 rfl ?_
          refine n_iald hC 24 1 (nI (L.getD i 0)) dX0_placeOf_24 rfl (by omega) (by decide) (hR i (by omega)) ?_
          refine k_iload_n hC 25 dX0_placeOf_25 rfl ?_
          refine n_icmp_ne hC 26 31 dX0_placeOf_26 (by decide) (by omega) (by omega) (fun h26 => ?_) (fun h26 => ?_)
          · skip
            refine k_iinc hC 31 0 (nI (i + 1)) [(2, .int (nI (i + 1))), (0, .ref r), (1, .int (nI k))] dX0_placeOf_31 rfl (nI_1 _) (by decide) rfl ?_
            refine k_goto hC 34 2 dX0_placeOf_34 (by decide) ?_
            exact ih2 (i + 1) (by omega) (by omega) (lt_s hb h26)
          · skip
            refine k_iload_n hC 29 dX0_placeOf_29 rfl ?_
            exact k_iret hC hE 30 () dX0_placeOf_30 rfl (by rw [ixv, if_pos (ix_found h7 h26 hb).1, (ix_found h7 h26 hb).2]) rfl ⟨Nat.zero_le _, Nat.zero_le _⟩
  exact loop2 (L.length + 1) 0 (by omega) (by omega) (fun j hj => absurd hj (Nat.not_lt_zero j))
set_option maxHeartbeats 4000000 in
set_option maxRecDepth 100000 in
/-- Row.has -/
theorem c_X0_has (l : Launch) (D : va_G) (r q : Nat) (L : List Nat) (f : Nat → Int32) (k : Nat) (hR : RowL L f) (hL : L.length ≤ 40) (hK : KL L) (hk : k < 40) : MU l yX0_has cX0_has 2 (some .boolean) 1 22 D [.ref r, .int (nI k)] [(r, .inr (0, [.ref q, .int (nI L.length)])), (q, .inl (D.1 5, 40, .inl f))] (fun v (_ : Unit) => v = some (.int (nI (yn (k ∈ L))))) (fun _ => [(r, .inr (0, [.ref q, .int (nI L.length)])), (q, .inl (D.1 5, 40, .inl f))]) 0 0 := by
  refine MU.enter (by decide) [(0, .ref r), (1, .int (nI k))] rfl (Nat.le_of_ble_eq_true rfl) (fun G hC hE => ?_)
  have hC : CX G D cX0_has RX0 2 := hC
  refine k_aload_n hC 0 dX0_has_0 rfl ?_
  refine k_iload_n hC 1 dX0_has_1 rfl ?_
  refine k_callVr hC 2 0 [0, 1] (c_X0_placeOf l D r q L f k hR hL hK hk) cw_RX0_19 dX0_has_2 ⟨Nat.le_of_ble_eq_true rfl, Nat.le_of_ble_eq_true rfl, Nat.le_of_ble_eq_true rfl, Nat.le_of_ble_eq_true rfl⟩ rfl (Nat.le_of_ble_eq_true rfl) rfl rfl rfl (by decide) rfl (fun _ => Nat.le_of_ble_eq_true rfl) (fun _ => rfl) _ rfl (fun v u hp => ?_)
  obtain rfl := hp
  refine KJ.eqs (st' := .int (ixv L k) :: []) rfl ?_
  refine k_iconst hC 5 dX0_has_5 (-1) (by decide) ?_
  refine k_icmp_eq hC 6 13 dX0_has_6 (by decide) (fun h6 => ?_) (fun h6 => ?_)
  · skip
    refine k_iconst hC 13 dX0_has_13 (nI 0) (by decide) ?_
    exact k_iret hC hE 14 () dX0_has_14 rfl (by rw [yn_f ((ixv_m1 hL).mp h6)]) rfl ⟨Nat.zero_le _, Nat.zero_le _⟩
  · skip
    refine k_iconst hC 9 dX0_has_9 (nI 1) (by decide) ?_
    refine k_goto hC 10 14 dX0_has_10 (by decide) ?_
    exact k_iret hC hE 14 () dX0_has_14 rfl (by rw [yn_t (Classical.byContradiction (fun z => h6 ((ixv_m1 hL).mpr z)))]) rfl ⟨Nat.zero_le _, Nat.zero_le _⟩
set_option maxHeartbeats 4000000 in
set_option maxRecDepth 100000 in
/-- Row.append -/
theorem c_X0_append (l : Launch) (D : va_G) (r q : Nat) (L : List Nat) (f : Nat → Int32) (k : Nat) (hR : RowL L f) (hL : L.length < 40) (hk : k < 40) : MU l yX0_append cX0_append 2 none 0 0 D [.ref r, .int (nI k)] [(r, .inr (0, [.ref q, .int (nI L.length)])), (q, .inl (D.1 5, 40, .inl f))] (fun v (u : Nat → Int32) => v = none ∧ RowL (L ++ [k]) u) (fun u => [(r, .inr (0, [.ref q, .int (nI ((L ++ [k]).length))])), (q, .inl (D.1 5, 40, .inl u))]) 0 0 := by
  refine MU.enter (by decide) [(0, .ref r), (1, .int (nI k))] rfl (Nat.le_of_ble_eq_true rfl) (fun G hC hE => ?_)
  have hC : CX G D cX0_append RX0 2 := hC
  refine k_aload_n hC 0 dX0_append_0 rfl ?_
  refine k_getf hC 1 0 1 dX0_append_1 rfl rfl inlX0 (by decide) wq_2_18 rfl ?_
  refine n_if_lt hC 4 39 dX0_append_4 (by decide) (by omega) (fun h4 => ?_) (fun h4 => ?_)
  · skip
    exact h4.elim
  · skip
    refine k_aload_n hC 7 dX0_append_7 rfl ?_
    refine k_getf hC 8 0 1 dX0_append_8 rfl rfl inlX0 (by decide) wq_2_18 rfl ?_
    refine k_aload_n hC 11 dX0_append_11 rfl ?_
    refine k_getf hC 12 0 0 dX0_append_12 rfl rfl inlX0 (by decide) wq_2_17 rfl ?_
    refine k_alen hC 15 1 0 (nI 40) dX0_append_15 rfl rfl rfl ?_
    refine n_icmp_ge hC 16 39 dX0_append_16 (by decide) (by omega) (by omega) (fun h16 => ?_) (fun h16 => ?_)
    · skip
      exact absurd h16 (by omega)
    · skip
      refine k_aload_n hC 19 dX0_append_19 rfl ?_
      refine k_getf hC 20 0 0 dX0_append_20 rfl rfl inlX0 (by decide) wq_2_17 rfl ?_
      refine k_aload_n hC 23 dX0_append_23 rfl ?_
      refine k_getf hC 24 0 1 dX0_append_24 rfl rfl inlX0 (by decide) wq_2_18 rfl ?_
      refine k_iload_n hC 27 dX0_append_27 rfl ?_
      refine n_iast hC 28 1 [(r, .inr (0, [.ref q, .int (nI L.length)])), (q, .inl (D.1 5, 40, .inl (upd f L.length (nI k))))] dX0_append_28 rfl (by omega) (by decide) rfl ?_
      refine k_aload_n hC 29 dX0_append_29 rfl ?_
      refine k_dup hC 30 dX0_append_30 rfl ?_
      refine k_getf hC 31 0 1 dX0_append_31 rfl rfl inlX0 (by decide) wq_2_18 rfl ?_
      refine k_iconst hC 34 dX0_append_34 (nI 1) (by decide) ?_
      refine n_iadd hC 35 (L.length + 1) dX0_append_35 rfl ?_
      refine KJ.topi (y := nI (L ++ [k]).length) (by rw [List.length_append, List.length_singleton]) ?_
      refine k_putf hC 36 (ty0 := tyX0) 0 1 [(r, .inr (0, [.ref q, .int (nI ((L ++ [k]).length))])), (q, .inl (D.1 5, 40, .inl (upd f L.length (nI k))))] dX0_append_36 rfl rfl inlX0 tyX0_ok nmX0 (by decide) wq_2_18 rfl rfl rfl (Nat.le_of_ble_eq_true rfl) rfl ?_
      exact k_vret hC hE 39 (upd f L.length (nI k)) dX0_append_39 (⟨rfl, hR.push k⟩) rfl ⟨Nat.zero_le _, Nat.zero_le _⟩
set_option maxHeartbeats 4000000 in
set_option maxRecDepth 100000 in
/-- Row.takeOut -/
theorem c_X0_takeOut (l : Launch) (D : va_G) (r q : Nat) (L : List Nat) (f : Nat → Int32) (p : Nat) (hR : RowL L f) (hL : L.length ≤ 40) (hp : p < L.length) : MU l yX0_takeOut cX0_takeOut 3 none 0 0 D [.ref r, .int (nI p)] [(r, .inr (0, [.ref q, .int (nI L.length)])), (q, .inl (D.1 5, 40, .inl f))] (fun v (u : Nat → Int32) => v = none ∧ RowL (L.eraseIdx p) u) (fun u => [(r, .inr (0, [.ref q, .int (nI ((L.eraseIdx p).length))])), (q, .inl (D.1 5, 40, .inl u))]) 0 0 := by
  refine MU.enter (by decide) [(0, .ref r), (1, .int (nI p))] rfl (Nat.le_of_ble_eq_true rfl) (fun G hC hE => ?_)
  have hC : CX G D cX0_takeOut RX0 3 := hC
  refine k_iload_n hC 0 dX0_takeOut_0 rfl ?_
  refine n_if_lt hC 1 12 dX0_takeOut_1 (by decide) (by omega) (fun h1 => ?_) (fun h1 => ?_)
  · skip
    exact h1.elim
  · skip
    refine k_iload_n hC 4 dX0_takeOut_4 rfl ?_
    refine k_aload_n hC 5 dX0_takeOut_5 rfl ?_
    refine k_getf hC 6 0 1 dX0_takeOut_6 rfl rfl inlX0 (by decide) wq_2_18 rfl ?_
    refine n_icmp_lt hC 9 13 dX0_takeOut_9 (by decide) (by omega) (by omega) (fun h9 => ?_) (fun h9 => ?_)
    · skip
      refine k_iload_n hC 13 dX0_takeOut_13 rfl ?_
      refine k_iconst hC 14 dX0_takeOut_14 (nI 1) (by decide) ?_
      refine n_iadd hC 15 (p + 1) dX0_takeOut_15 rfl ?_
      refine k_istore_n hC 16 2 [(2, .int (nI (p + 1))), (0, .ref r), (1, .int (nI p))] dX0_takeOut_16 rfl (by decide) rfl ?_
      have e0 := shf_0 f p
      refine KJ.eqw (ws' := [(r, .inr (0, [.ref q, .int (nI L.length)])), (q, .inl (D.1 5, 40, .inl (shf f p (p + 1))))]) (by rw [e0]) ?_
      have loop17 : ∀ (n17 : Nat) (i : Nat), L.length - i < n17 → p < i → i ≤ L.length → KJ l G D ({ frames := 0, cells := 0, slots := 0, locals := 0 } : Room) 3 0 0 [(r, .inr (0, [.ref q, .int (nI L.length)])), (q, .inl (D.1 5, 40, .inl (shf f p i)))] [(2, .int (nI i)), (0, .ref r), (1, .int (nI p))] 17 [] := by
        intro n17
        induction n17 with
        | zero => intro i h; exact absurd h (Nat.not_lt_zero _)
        | succ n17 ih17 =>
          intro i hn17 hi hi2
          refine k_iload_n hC 17 dX0_takeOut_17 rfl ?_
          refine k_aload_n hC 18 dX0_takeOut_18 rfl ?_
          refine k_getf hC 19 0 1 dX0_takeOut_19 rfl rfl inlX0 (by decide) wq_2_18 rfl ?_
          refine n_icmp_ge hC 22 54 dX0_takeOut_22 (by decide) (by omega) (by omega) (fun h22 => ?_) (fun h22 => ?_)
          · skip
            refine k_aload_n hC 54 dX0_takeOut_54 rfl ?_
            refine k_dup hC 55 dX0_takeOut_55 rfl ?_
            refine k_getf hC 56 0 1 dX0_takeOut_56 rfl rfl inlX0 (by decide) wq_2_18 rfl ?_
            refine k_iconst hC 59 dX0_takeOut_59 (nI 1) (by decide) ?_
            refine n_isub hC 60 (L.length - 1) dX0_takeOut_60 (by omega) rfl ?_
            refine KJ.topi (y := nI (L.eraseIdx p).length) (by rw [List.length_eraseIdx_of_lt hp]) ?_
            refine k_putf hC 61 (ty0 := tyX0) 0 1 [(r, .inr (0, [.ref q, .int (nI ((L.eraseIdx p).length))])), (q, .inl (D.1 5, 40, .inl (shf f p i)))] dX0_takeOut_61 rfl rfl inlX0 tyX0_ok nmX0 (by decide) wq_2_18 rfl rfl rfl (Nat.le_of_ble_eq_true rfl) rfl ?_
            exact k_vret hC hE 64 (shf f p i) dX0_takeOut_64 (⟨rfl, by rw [show i = L.length by omega]; exact hR.cut hp⟩) rfl ⟨Nat.zero_le _, Nat.zero_le _⟩
          · skip
            refine k_iload_n hC 25 dX0_takeOut_25 rfl ?_
            refine k_aload_n hC 26 dX0_takeOut_26 rfl ?_
            refine k_getf hC 27 0 0 dX0_takeOut_27 rfl rfl inlX0 (by decide) wq_2_17 rfl ?_
            refine k_alen hC 30 1 0 (nI 40) dX0_takeOut_30 rfl rfl rfl ?_
            refine n_icmp_ge hC 31 54 dX0_takeOut_31 (by decide) (by omega) (by omega) (fun h31 => ?_) (fun h31 => ?_)
            · skip
              exact absurd h31 (by omega)
            · skip
              refine k_aload_n hC 34 dX0_takeOut_34 rfl ?_
              refine k_getf hC 35 0 0 dX0_takeOut_35 rfl rfl inlX0 (by decide) wq_2_17 rfl ?_
              refine k_iload_n hC 38 dX0_takeOut_38 rfl ?_
              refine k_iconst hC 39 dX0_takeOut_39 (nI 1) (by decide) ?_
              refine n_isub hC 40 (i - 1) dX0_takeOut_40 (by omega) rfl ?_
              refine k_aload_n hC 41 dX0_takeOut_41 rfl ?_
              refine k_getf hC 42 0 0 dX0_takeOut_42 rfl rfl inlX0 (by decide) wq_2_17 rfl ?_
              refine k_iload_n hC 45 dX0_takeOut_45 rfl ?_
              refine n_iald hC 46 1 (f i) dX0_takeOut_46 rfl (by omega) (by decide) (shf_at f p i) ?_
              refine n_iast hC 47 1 [(r, .inr (0, [.ref q, .int (nI L.length)])), (q, .inl (D.1 5, 40, .inl (upd (shf f p i) (i - 1) (f i))))] dX0_takeOut_47 rfl (by omega) (by decide) rfl ?_
              rw [shf_step hi]
              refine k_iinc hC 48 0 (nI (i + 1)) [(2, .int (nI (i + 1))), (0, .ref r), (1, .int (nI p))] dX0_takeOut_48 rfl (nI_1 _) (by decide) rfl ?_
              refine k_goto hC 51 17 dX0_takeOut_51 (by decide) ?_
              exact ih17 (i + 1) (by omega) (by omega) (by omega)
      exact loop17 (L.length + 1) (p + 1) (by omega) (by omega) (by omega)
    · skip
      exact absurd h9 (by omega)
set_option maxHeartbeats 4000000 in
set_option maxRecDepth 100000 in
/-- Row.takeOut, no place -/
theorem c_X0_takeOut_no (l : Launch) (D : va_G) (r q : Nat) (L : List Nat) (f : Nat → Int32) (hR : RowL L f) (hL : L.length ≤ 40) : MU l yX0_takeOut cX0_takeOut 3 none 0 0 D [.ref r, .int (-1)] [(r, .inr (0, [.ref q, .int (nI L.length)])), (q, .inl (D.1 5, 40, .inl f))] (fun v (u : Nat → Int32) => v = none ∧ RowL L u) (fun u => [(r, .inr (0, [.ref q, .int (nI L.length)])), (q, .inl (D.1 5, 40, .inl u))]) 0 0 := by
  refine MU.enter (by decide) [(0, .ref r), (1, .int (-1))] rfl (Nat.le_of_ble_eq_true rfl) (fun G hC hE => ?_)
  have hC : CX G D cX0_takeOut RX0 3 := hC
  refine k_iload_n hC 0 dX0_takeOut_0 rfl ?_
  refine k_if_lt hC 1 12 dX0_takeOut_1 (by decide) (fun h1 => ?_) (fun h1 => ?_)
  · skip
    exact k_vret hC hE 12 f dX0_takeOut_12 (⟨rfl, hR⟩) rfl ⟨Nat.zero_le _, Nat.zero_le _⟩
  · skip
    exact absurd (by decide) h1
set_option maxHeartbeats 4000000 in
set_option maxRecDepth 100000 in
/-- Row.forgetEldest -/
theorem c_X0_forgetEldest (l : Launch) (D : va_G) (r q : Nat) (L : List Nat) (f : Nat → Int32) (m : Nat) (hR : RowL L f) (hL : L.length ≤ 40) (hK : KL L) (hm40 : m ≤ 40) : MU l yX0_forgetEldest cX0_forgetEldest 3 none 1 22 D [.ref r, .int (nI m)] [(r, .inr (0, [.ref q, .int (nI L.length)])), (q, .inl (D.1 5, 40, .inl f))] (fun v (u : Nat → Int32) => v = none ∧ RowL (L.drop (L.length - m)) u) (fun u => [(r, .inr (0, [.ref q, .int (nI ((L.drop (L.length - m)).length))])), (q, .inl (D.1 5, 40, .inl u))]) 0 0 := by
  refine MU.enter (by decide) [(0, .ref r), (1, .int (nI m))] rfl (Nat.le_of_ble_eq_true rfl) (fun G hC hE => ?_)
  have hC : CX G D cX0_forgetEldest RX0 3 := hC
  refine k_aload_n hC 0 dX0_forgetEldest_0 rfl ?_
  refine k_getf hC 1 0 1 dX0_forgetEldest_1 rfl rfl inlX0 (by decide) wq_2_18 rfl ?_
  refine k_iload_n hC 4 dX0_forgetEldest_4 rfl ?_
  by_cases hm : m ≤ L.length
  · skip
    refine n_isub hC 5 (L.length - m) dX0_forgetEldest_5 (by omega) rfl ?_
    refine k_istore_n hC 6 2 [(2, .int (nI (L.length - m))), (0, .ref r), (1, .int (nI m))] dX0_forgetEldest_6 rfl (by decide) rfl ?_
    refine KJ.eqw (ws' := [(r, .inr (0, [.ref q, .int (nI ((L.drop 0).length))])), (q, .inl (D.1 5, 40, .inl f))]) (by rw [List.drop_zero]) ?_
    have loop7 : ∀ (n7 : Nat) (j : Nat) (g : Nat → Int32), L.length - m - j < n7 → j ≤ L.length - m → RowL (L.drop j) g → KJ l G D ({ frames := 1, cells := 0, slots := 0, locals := 22 } : Room) 3 0 0 [(r, .inr (0, [.ref q, .int (nI ((L.drop j).length))])), (q, .inl (D.1 5, 40, .inl g))] [(2, .int (nI (L.length - m - j))), (0, .ref r), (1, .int (nI m))] 7 [] := by
      intro n7
      induction n7 with
      | zero => intro j g h; exact absurd h (Nat.not_lt_zero _)
      | succ n7 ih7 =>
        intro j g hn7 hj hg
        refine k_iload_n hC 7 dX0_forgetEldest_7 rfl ?_
        refine n_if_le hC 8 22 dX0_forgetEldest_8 (by decide) (by omega) (fun h8 => ?_) (fun h8 => ?_)
        · skip
          exact k_vret hC hE 22 g dX0_forgetEldest_22 (⟨rfl, by rw [show L.length - m = j by omega]; exact hg⟩) (by rw [show L.length - m = j by omega]) ⟨Nat.zero_le _, Nat.zero_le _⟩
        · skip
          refine k_aload_n hC 11 dX0_forgetEldest_11 rfl ?_
          refine k_iconst hC 12 dX0_forgetEldest_12 (nI 0) (by decide) ?_
          refine k_callV hC 13 0 [0, 1] (fun g2 => [(r, .inr (0, [.ref q, .int (nI (((L.drop j).eraseIdx 0).length))])), (q, .inl (D.1 5, 40, .inl g2))]) (c_X0_takeOut l D r q (L.drop j) g 0 hg (by rw [List.length_drop]; omega) (by rw [List.length_drop]; omega)) cw_RX0_23 dX0_forgetEldest_13 ⟨Nat.le_of_ble_eq_true rfl, Nat.le_of_ble_eq_true rfl, Nat.le_of_ble_eq_true rfl, Nat.le_of_ble_eq_true rfl⟩ rfl (Nat.le_of_ble_eq_true rfl) rfl rfl rfl (by decide) rfl (fun _ => Nat.le_of_ble_eq_true rfl) (fun _ => rfl) _ rfl (fun v g2 hp => ?_)
          obtain ⟨rfl, hg2⟩ := hp
          refine KJ.eqs (st' := []) rfl ?_
          rw [drop_e0] at hg2 ⊢
          refine k_iinc hC 16 0 (nI (L.length - m - (j + 1))) [(2, .int (nI (L.length - m - (j + 1)))), (0, .ref r), (1, .int (nI m))] dX0_forgetEldest_16 rfl (by rw [show L.length - m - j = (L.length - m - (j + 1)) + 1 by omega]; exact pk_m1 _) (by decide) rfl ?_
          refine k_goto hC 19 7 dX0_forgetEldest_19 (by decide) ?_
          exact ih7 (j + 1) g2 (by omega) (by omega) hg2
    exact loop7 (L.length + 1) 0 f (by omega) (by omega) hR
  · skip
    refine k_isub hC 5 dX0_forgetEldest_5 (KJ.topi (y := (nI L.length - nI m)) rfl ?_)
    refine k_istore_n hC 6 2 [(2, .int (nI L.length - nI m)), (0, .ref r), (1, .int (nI m))] dX0_forgetEldest_6 rfl (by decide) rfl ?_
    refine k_iload_n hC 7 dX0_forgetEldest_7 rfl ?_
    refine k_if_le hC 8 22 dX0_forgetEldest_8 (by decide) (fun h8 => ?_) (fun h8 => ?_)
    · skip
      exact k_vret hC hE 22 f dX0_forgetEldest_22 (⟨rfl, by rw [show L.length - m = 0 by omega]; exact hR⟩) (by rw [show L.length - m = 0 by omega]; rfl) ⟨Nat.zero_le _, Nat.zero_le _⟩
    · skip
      exact absurd (Int32.le_of_lt (pk_sneg (by omega) (by omega))) h8
set_option maxHeartbeats 4000000 in
set_option maxRecDepth 100000 in
/-- Row.digestKinds -/
theorem c_X0_digestKinds (l : Launch) (D : va_G) (r q : Nat) (L : List Nat) (f : Nat → Int32) (d0 : Int64) (hR : RowL L f) (hL : L.length ≤ 40) (hK : KL L) : MU l yX0_digestKinds cX0_digestKinds 6 (some .long) 1 21 D [.ref r, .long d0] [(r, .inr (0, [.ref q, .int (nI L.length)])), (q, .inl (D.1 5, 40, .inl f))] (fun v (_ : Unit) => v = some (.long (dks d0 L))) (fun _ => [(r, .inr (0, [.ref q, .int (nI L.length)])), (q, .inl (D.1 5, 40, .inl f))]) 0 0 := by
  refine MU.enter (by decide) [(0, .ref r), (1, .long d0)] rfl (Nat.le_of_ble_eq_true rfl) (fun G hC hE => ?_)
  have hC : CX G D cX0_digestKinds RX0 6 := hC
  refine k_lload_n hC 0 dX0_digestKinds_0 rfl ?_
  refine k_lstore_n hC 1 3 [(3, .long d0), (0, .ref r), (1, .long d0)] dX0_digestKinds_1 rfl (by decide) rfl ?_
  refine k_iconst hC 2 dX0_digestKinds_2 (nI 0) (by decide) ?_
  refine k_istore hC 3 5 [(5, .int (nI 0)), (3, .long d0), (0, .ref r), (1, .long d0)] dX0_digestKinds_3 (by decide) rfl ?_
  refine KJ.lvp [0, 1, 2, 3] rfl ?_
  have loop5 : ∀ (n5 : Nat) (i : Nat), L.length - i < n5 → i ≤ L.length → KJ l G D ({ frames := 1, cells := 0, slots := 0, locals := 21 } : Room) 6 0 0 [(r, .inr (0, [.ref q, .int (nI L.length)])), (q, .inl (D.1 5, 40, .inl f))] [(5, .int (nI i)), (3, .long (dks d0 (L.take i))), (0, .ref r), (1, .long d0)] 5 [] := by
    intro n5
    induction n5 with
    | zero => intro i h; exact absurd h (Nat.not_lt_zero _)
    | succ n5 ih5 =>
      intro i hn5 hi
      refine k_iload hC 5 dX0_digestKinds_5 rfl ?_
      refine k_aload_n hC 7 dX0_digestKinds_7 rfl ?_
      refine k_getf hC 8 0 1 dX0_digestKinds_8 rfl rfl inlX0 (by decide) wq_2_18 rfl ?_
      refine n_icmp_ge hC 11 34 dX0_digestKinds_11 (by decide) (by omega) (by omega) (fun h11 => ?_) (fun h11 => ?_)
      · skip
        refine k_lload_n hC 34 dX0_digestKinds_34 rfl ?_
        exact k_lret hC hE 35 () dX0_digestKinds_35 (by rw [List.take_of_length_le h11]) rfl ⟨Nat.zero_le _, Nat.zero_le _⟩
      · skip
        refine k_lload_n hC 14 dX0_digestKinds_14 rfl ?_
        refine k_ldc2 hC 15 31 dX0_digestKinds_15 wq_23_23 ?_
        refine k_lmul hC 18 dX0_digestKinds_18 ?_
        refine k_aload_n hC 19 dX0_digestKinds_19 rfl ?_
        refine k_iload hC 20 dX0_digestKinds_20 rfl ?_
        refine k_callVr hC 22 0 [0, 1] (c_X0_at_in l D r q L f i hR hL hK h11) cw_RX0_29 dX0_digestKinds_22 ⟨Nat.le_of_ble_eq_true rfl, Nat.le_of_ble_eq_true rfl, Nat.le_of_ble_eq_true rfl, Nat.le_of_ble_eq_true rfl⟩ rfl (Nat.le_of_ble_eq_true rfl) rfl rfl rfl (by decide) rfl (fun _ => Nat.le_of_ble_eq_true rfl) (fun _ => rfl) _ rfl (fun v u hp => ?_)
        obtain rfl := hp
        refine KJ.eqs (st' := .int (nI (L.getD i 0)) :: .long ((dks d0 (L.take i)) * 31) :: []) rfl ?_
        refine k_i2l hC 25 dX0_digestKinds_25 ((nI (L.getD i 0)).toInt64) rfl ?_
        refine k_ladd hC 26 dX0_digestKinds_26 ?_
        refine KJ.topl (dks_s d0 h11).symm ?_
        refine k_lstore_n hC 27 3 [(3, .long (dks d0 (L.take (i + 1)))), (5, .int (nI i)), (0, .ref r), (1, .long d0)] dX0_digestKinds_27 rfl (by decide) rfl ?_
        refine k_iinc hC 28 1 (nI (i + 1)) [(5, .int (nI (i + 1))), (3, .long (dks d0 (L.take (i + 1)))), (0, .ref r), (1, .long d0)] dX0_digestKinds_28 rfl (nI_1 _) (by decide) rfl ?_
        refine k_goto hC 31 5 dX0_digestKinds_31 (by decide) ?_
        exact ih5 (i + 1) (by omega) (by omega)
  exact loop5 (L.length + 1) 0 (by omega) (by omega)
set_option maxHeartbeats 4000000 in
set_option maxRecDepth 100000 in
/-- Row.become -/
theorem c_X0_become (l : Launch) (D : va_G) (r q r2 q2 : Nat) (L L2 : List Nat) (f f2 : Nat → Int32) (hR : RowL L2 f2) (hL : L2.length ≤ 40) : MU l yX0_become cX0_become 3 none 0 0 D [.ref r, .ref r2] [(r, .inr (0, [.ref q, .int (nI L.length)])), (q, .inl (D.1 5, 40, .inl f)), (r2, .inr (0, [.ref q2, .int (nI L2.length)])), (q2, .inl (D.1 5, 40, .inl f2))] (fun v (u : Nat → Int32) => v = none ∧ RowL L2 u) (fun u => [(r, .inr (0, [.ref q, .int (nI L2.length)])), (q, .inl (D.1 5, 40, .inl u)), (r2, .inr (0, [.ref q2, .int (nI L2.length)])), (q2, .inl (D.1 5, 40, .inl f2))]) 0 0 := by
  refine MU.enter (by decide) [(0, .ref r), (1, .ref r2)] rfl (Nat.le_of_ble_eq_true rfl) (fun G hC hE => ?_)
  have hC : CX G D cX0_become RX0 3 := hC
  refine k_iconst hC 0 dX0_become_0 (nI 0) (by decide) ?_
  refine k_istore_n hC 1 2 [(2, .int (nI 0)), (0, .ref r), (1, .ref r2)] dX0_become_1 rfl (by decide) rfl ?_
  refine KJ.eqw (ws' := [(r, .inr (0, [.ref q, .int (nI L.length)])), (q, .inl (D.1 5, 40, .inl (cpf f2 f 0))), (r2, .inr (0, [.ref q2, .int (nI L2.length)])), (q2, .inl (D.1 5, 40, .inl f2))]) (by rw [cpf_0]) ?_
  have loop2 : ∀ (n2 : Nat) (i : Nat), 40 - i < n2 → i ≤ 40 → KJ l G D ({ frames := 0, cells := 0, slots := 0, locals := 0 } : Room) 3 0 0 [(r, .inr (0, [.ref q, .int (nI L.length)])), (q, .inl (D.1 5, 40, .inl (cpf f2 f i))), (r2, .inr (0, [.ref q2, .int (nI L2.length)])), (q2, .inl (D.1 5, 40, .inl f2))] [(2, .int (nI i)), (0, .ref r), (1, .ref r2)] 2 [] := by
    intro n2
    induction n2 with
    | zero => intro i h; exact absurd h (Nat.not_lt_zero _)
    | succ n2 ih2 =>
      intro i hn2 hi
      refine k_iload_n hC 2 dX0_become_2 rfl ?_
      refine k_aload_n hC 3 dX0_become_3 rfl ?_
      refine k_getf hC 4 0 0 dX0_become_4 rfl rfl inlX0 (by decide) wq_2_17 rfl ?_
      refine k_alen hC 7 1 0 (nI 40) dX0_become_7 rfl rfl rfl ?_
      refine n_icmp_ge hC 8 38 dX0_become_8 (by decide) (by omega) (by omega) (fun h8 => ?_) (fun h8 => ?_)
      · skip
        refine k_aload_n hC 38 dX0_become_38 rfl ?_
        refine k_aload_n hC 39 dX0_become_39 rfl ?_
        refine k_getf hC 40 2 1 dX0_become_40 rfl rfl inlX0 (by decide) wq_2_18 rfl ?_
        refine k_putf hC 43 (ty0 := tyX0) 0 1 [(r, .inr (0, [.ref q, .int (nI L2.length)])), (q, .inl (D.1 5, 40, .inl (cpf f2 f i))), (r2, .inr (0, [.ref q2, .int (nI L2.length)])), (q2, .inl (D.1 5, 40, .inl f2))] dX0_become_43 rfl rfl inlX0 tyX0_ok nmX0 (by decide) wq_2_18 rfl rfl rfl (Nat.le_of_ble_eq_true rfl) rfl ?_
        exact k_vret hC hE 46 (cpf f2 f i) dX0_become_46 (⟨rfl, hR.of (fun j hj => cpf_in (by omega))⟩) rfl ⟨Nat.zero_le _, Nat.zero_le _⟩
      · skip
        refine k_iload_n hC 11 dX0_become_11 rfl ?_
        refine k_aload_n hC 12 dX0_become_12 rfl ?_
        refine k_getf hC 13 2 0 dX0_become_13 rfl rfl inlX0 (by decide) wq_2_17 rfl ?_
        refine k_alen hC 16 3 0 (nI 40) dX0_become_16 rfl rfl rfl ?_
        refine n_icmp_ge hC 17 38 dX0_become_17 (by decide) (by omega) (by omega) (fun h17 => ?_) (fun h17 => ?_)
        · skip
          exact absurd h8 (by omega)
        · skip
          refine k_aload_n hC 20 dX0_become_20 rfl ?_
          refine k_getf hC 21 0 0 dX0_become_21 rfl rfl inlX0 (by decide) wq_2_17 rfl ?_
          refine k_iload_n hC 24 dX0_become_24 rfl ?_
          refine k_aload_n hC 25 dX0_become_25 rfl ?_
          refine k_getf hC 26 2 0 dX0_become_26 rfl rfl inlX0 (by decide) wq_2_17 rfl ?_
          refine k_iload_n hC 29 dX0_become_29 rfl ?_
          refine n_iald hC 30 3 (f2 i) dX0_become_30 rfl (by omega) (by decide) rfl ?_
          refine n_iast hC 31 1 [(r, .inr (0, [.ref q, .int (nI L.length)])), (q, .inl (D.1 5, 40, .inl (upd (cpf f2 f i) i (f2 i)))), (r2, .inr (0, [.ref q2, .int (nI L2.length)])), (q2, .inl (D.1 5, 40, .inl f2))] dX0_become_31 rfl (by omega) (by decide) rfl ?_
          rw [cpf_step]
          refine k_iinc hC 32 0 (nI (i + 1)) [(2, .int (nI (i + 1))), (0, .ref r), (1, .ref r2)] dX0_become_32 rfl (nI_1 _) (by decide) rfl ?_
          refine k_goto hC 35 2 dX0_become_35 (by decide) ?_
          exact ih2 (i + 1) (by omega) (by omega)
  exact loop2 41 0 (by omega) (by omega)
/-! PinnedPantry$Table: a number a kind -/
set_option maxHeartbeats 4000000 in
set_option maxRecDepth 100000 in
/-- Table() -/
theorem c_X2_init (l : Launch) (D : va_G) (r : Nat)  : MU l yX2_init cX2_init 1 none 1 12 D [.ref r] [(r, .inr (2, [.null]))] (fun v (_ : Nat) => v = none) (fun q => [(r, .inr (2, [.ref q])), (q, .inl (D.1 5, 40, .inl (fun _ => 0)))]) 1 40 := by
  refine MU.enter (by decide) [(0, .ref r)] rfl (Nat.le_of_ble_eq_true rfl) (fun G hC hE => ?_)
  have hC : CX G D cX2_init RX2 1 := hC
  refine k_aload_n hC 0 dX2_init_0 rfl ?_
  refine k_objInit hC 1 dX2_init_1 wq_2_22 wq_1_11 wq_1_12 ⟨Nat.le_of_ble_eq_true rfl, Nat.le_of_ble_eq_true rfl⟩ ?_
  refine k_aload_n hC 4 dX2_init_4 rfl ?_
  refine k_bipush hC 5 dX2_init_5 (nI 40) (by decide) ?_
  refine k_newarrI hC 7 40 dX2_init_7 (by decide) (by decide) ⟨Nat.le_of_ble_eq_true rfl, Nat.le_of_ble_eq_true rfl⟩ (fun q => ?_)
  refine KJ.eqw (ws' := [(r, .inr (2, [.null])), (q, .inl (D.1 5, 40, .inl (fun _ => 0)))]) rfl ?_
  refine k_putfF hC 9 (ty0 := tyX2) 0 0 [(r, .inr (2, [.ref q])), (q, .inl (D.1 5, 40, .inl (fun _ => 0)))] dX2_init_9 rfl rfl inlX2 tyX2_ok nmX2 (by decide) wq_2_23 rfl hE.2.2.2.2 rfl rfl rfl (Nat.le_of_ble_eq_true rfl) rfl ?_
  exact k_vret hC hE 12 q dX2_init_12 rfl rfl ⟨Nat.le_of_ble_eq_true rfl, Nat.le_of_ble_eq_true rfl⟩
set_option maxHeartbeats 4000000 in
set_option maxRecDepth 100000 in
/-- Table.become -/
theorem c_X2_become (l : Launch) (D : va_G) (r q r2 q2 : Nat) (f f2 : Nat → Int32)  : MU l yX2_become cX2_become 3 none 0 0 D [.ref r, .ref r2] [(r, .inr (2, [.ref q])), (q, .inl (D.1 5, 40, .inl f)), (r2, .inr (2, [.ref q2])), (q2, .inl (D.1 5, 40, .inl f2))] (fun v (u : Nat → Int32) => v = none ∧ ∀ k : Nat, k < 40 → u k = f2 k) (fun u => [(r, .inr (2, [.ref q])), (q, .inl (D.1 5, 40, .inl u)), (r2, .inr (2, [.ref q2])), (q2, .inl (D.1 5, 40, .inl f2))]) 0 0 := by
  refine MU.enter (by decide) [(0, .ref r), (1, .ref r2)] rfl (Nat.le_of_ble_eq_true rfl) (fun G hC hE => ?_)
  have hC : CX G D cX2_become RX2 3 := hC
  refine k_iconst hC 0 dX2_become_0 (nI 0) (by decide) ?_
  refine k_istore_n hC 1 2 [(2, .int (nI 0)), (0, .ref r), (1, .ref r2)] dX2_become_1 rfl (by decide) rfl ?_
  refine KJ.eqw (ws' := [(r, .inr (2, [.ref q])), (q, .inl (D.1 5, 40, .inl (cpf f2 f 0))), (r2, .inr (2, [.ref q2])), (q2, .inl (D.1 5, 40, .inl f2))]) (by rw [cpf_0]) ?_
  have loop2 : ∀ (n2 : Nat) (i : Nat), 40 - i < n2 → i ≤ 40 → KJ l G D ({ frames := 0, cells := 0, slots := 0, locals := 0 } : Room) 3 0 0 [(r, .inr (2, [.ref q])), (q, .inl (D.1 5, 40, .inl (cpf f2 f i))), (r2, .inr (2, [.ref q2])), (q2, .inl (D.1 5, 40, .inl f2))] [(2, .int (nI i)), (0, .ref r), (1, .ref r2)] 2 [] := by
    intro n2
    induction n2 with
    | zero => intro i h; exact absurd h (Nat.not_lt_zero _)
    | succ n2 ih2 =>
      intro i hn2 hi
      refine k_iload_n hC 2 dX2_become_2 rfl ?_
      refine k_aload_n hC 3 dX2_become_3 rfl ?_
      refine k_getf hC 4 0 0 dX2_become_4 rfl rfl inlX2 (by decide) wq_2_23 rfl ?_
      refine k_alen hC 7 1 0 (nI 40) dX2_become_7 rfl rfl rfl ?_
      refine n_icmp_ge hC 8 38 dX2_become_8 (by decide) (by omega) (by omega) (fun h8 => ?_) (fun h8 => ?_)
      · skip
        exact k_vret hC hE 38 (cpf f2 f i) dX2_become_38 (⟨rfl, fun k hk => cpf_in (by omega)⟩) rfl ⟨Nat.zero_le _, Nat.zero_le _⟩
      · skip
        refine k_iload_n hC 11 dX2_become_11 rfl ?_
        refine k_aload_n hC 12 dX2_become_12 rfl ?_
        refine k_getf hC 13 2 0 dX2_become_13 rfl rfl inlX2 (by decide) wq_2_23 rfl ?_
        refine k_alen hC 16 3 0 (nI 40) dX2_become_16 rfl rfl rfl ?_
        refine n_icmp_ge hC 17 38 dX2_become_17 (by decide) (by omega) (by omega) (fun h17 => ?_) (fun h17 => ?_)
        · skip
          exact absurd h8 (by omega)
        · skip
          refine k_aload_n hC 20 dX2_become_20 rfl ?_
          refine k_getf hC 21 0 0 dX2_become_21 rfl rfl inlX2 (by decide) wq_2_23 rfl ?_
          refine k_iload_n hC 24 dX2_become_24 rfl ?_
          refine k_aload_n hC 25 dX2_become_25 rfl ?_
          refine k_getf hC 26 2 0 dX2_become_26 rfl rfl inlX2 (by decide) wq_2_23 rfl ?_
          refine k_iload_n hC 29 dX2_become_29 rfl ?_
          refine n_iald hC 30 3 (f2 i) dX2_become_30 rfl (by omega) (by decide) rfl ?_
          refine n_iast hC 31 1 [(r, .inr (2, [.ref q])), (q, .inl (D.1 5, 40, .inl (upd (cpf f2 f i) i (f2 i)))), (r2, .inr (2, [.ref q2])), (q2, .inl (D.1 5, 40, .inl f2))] dX2_become_31 rfl (by omega) (by decide) rfl ?_
          rw [cpf_step]
          refine k_iinc hC 32 0 (nI (i + 1)) [(2, .int (nI (i + 1))), (0, .ref r), (1, .ref r2)] dX2_become_32 rfl (nI_1 _) (by decide) rfl ?_
          refine k_goto hC 35 2 dX2_become_35 (by decide) ?_
          exact ih2 (i + 1) (by omega) (by omega)
  exact loop2 41 0 (by omega) (by omega)
set_option maxHeartbeats 4000000 in
set_option maxRecDepth 100000 in
/-- Table.of -/
theorem c_X2_of (l : Launch) (D : va_G) (r q : Nat) (f : Nat → Int32) (k : Nat) (hk : k < 40) : MU l yX2_of cX2_of 2 (some .int) 0 0 D [.ref r, .int (nI k)] [(r, .inr (2, [.ref q])), (q, .inl (D.1 5, 40, .inl f))] (fun v (_ : Unit) => v = some (.int (f k))) (fun _ => [(r, .inr (2, [.ref q])), (q, .inl (D.1 5, 40, .inl f))]) 0 0 := by
  refine MU.enter (by decide) [(0, .ref r), (1, .int (nI k))] rfl (Nat.le_of_ble_eq_true rfl) (fun G hC hE => ?_)
  have hC : CX G D cX2_of RX2 2 := hC
  refine k_iload_n hC 0 dX2_of_0 rfl ?_
  refine n_if_lt hC 1 22 dX2_of_1 (by decide) (by omega) (fun h1 => ?_) (fun h1 => ?_)
  · skip
    exact h1.elim
  · skip
    refine k_iload_n hC 4 dX2_of_4 rfl ?_
    refine k_aload_n hC 5 dX2_of_5 rfl ?_
    refine k_getf hC 6 0 0 dX2_of_6 rfl rfl inlX2 (by decide) wq_2_23 rfl ?_
    refine k_alen hC 9 1 0 (nI 40) dX2_of_9 rfl rfl rfl ?_
    refine n_icmp_ge hC 10 22 dX2_of_10 (by decide) (by omega) (by omega) (fun h10 => ?_) (fun h10 => ?_)
    · skip
      exact absurd h10 (by omega)
    · skip
      refine k_aload_n hC 13 dX2_of_13 rfl ?_
      refine k_getf hC 14 0 0 dX2_of_14 rfl rfl inlX2 (by decide) wq_2_23 rfl ?_
      refine k_iload_n hC 17 dX2_of_17 rfl ?_
      refine n_iald hC 18 1 (f k) dX2_of_18 rfl (by omega) (by decide) rfl ?_
      refine k_goto hC 19 23 dX2_of_19 (by decide) ?_
      exact k_iret hC hE 23 () dX2_of_23 rfl rfl rfl ⟨Nat.zero_le _, Nat.zero_le _⟩
set_option maxHeartbeats 4000000 in
set_option maxRecDepth 100000 in
/-- Table.put -/
theorem c_X2_put (l : Launch) (D : va_G) (r q : Nat) (f : Nat → Int32) (k : Nat) (x : Int32) (hk : k < 40) : MU l yX2_put cX2_put 3 none 0 0 D [.ref r, .int (nI k), .int x] [(r, .inr (2, [.ref q])), (q, .inl (D.1 5, 40, .inl f))] (fun v (_ : Unit) => v = none) (fun _ => [(r, .inr (2, [.ref q])), (q, .inl (D.1 5, 40, .inl (upd f k x)))]) 0 0 := by
  refine MU.enter (by decide) [(0, .ref r), (1, .int (nI k)), (2, .int x)] rfl (Nat.le_of_ble_eq_true rfl) (fun G hC hE => ?_)
  have hC : CX G D cX2_put RX2 3 := hC
  refine k_iload_n hC 0 dX2_put_0 rfl ?_
  refine n_if_lt hC 1 20 dX2_put_1 (by decide) (by omega) (fun h1 => ?_) (fun h1 => ?_)
  · skip
    exact h1.elim
  · skip
    refine k_iload_n hC 4 dX2_put_4 rfl ?_
    refine k_aload_n hC 5 dX2_put_5 rfl ?_
    refine k_getf hC 6 0 0 dX2_put_6 rfl rfl inlX2 (by decide) wq_2_23 rfl ?_
    refine k_alen hC 9 1 0 (nI 40) dX2_put_9 rfl rfl rfl ?_
    refine n_icmp_ge hC 10 20 dX2_put_10 (by decide) (by omega) (by omega) (fun h10 => ?_) (fun h10 => ?_)
    · skip
      exact absurd h10 (by omega)
    · skip
      refine k_aload_n hC 13 dX2_put_13 rfl ?_
      refine k_getf hC 14 0 0 dX2_put_14 rfl rfl inlX2 (by decide) wq_2_23 rfl ?_
      refine k_iload_n hC 17 dX2_put_17 rfl ?_
      refine k_iload_n hC 18 dX2_put_18 rfl ?_
      refine n_iast hC 19 1 [(r, .inr (2, [.ref q])), (q, .inl (D.1 5, 40, .inl (upd f k x)))] dX2_put_19 rfl (by omega) (by decide) rfl ?_
      exact k_vret hC hE 20 () dX2_put_20 rfl rfl ⟨Nat.zero_le _, Nat.zero_le _⟩
end
section
/-! THE PANTRY AS A VALUE: the rows new, tried; the lists of new, tried; touches, pins, fetches; places, goal, hits, misses, remembered, looks -/
abbrev PS : Type := List Nat × List Nat × List Nat × List Nat × (Nat → Nat) × (Nat → Nat) × (Nat → Int32) × Nat × Nat × Int32 × Int32 × Int32 × Int32
/-- what its seven rows of numbers hold -/
abbrev PG : Type := (Nat → Int32) × (Nat → Int32) × (Nat → Int32) × (Nat → Int32) × (Nat → Int32) × (Nat → Int32) × (Nat → Int32)
def SR : PS → PG → Prop
  | (N, T, A, B, to, pi, fe, _, _, _, _, _, _), (g0, g1, g2, g3, g4, g5, g6) => RowL N g0 ∧ RowL T g1 ∧ RowL A g2 ∧ RowL B g3 ∧ (∀ k : Nat, k < 40 → g4 k = nI (to k)) ∧ (∀ k : Nat, k < 40 → g5 k = nI (pi k)) ∧ ∀ k : Nat, k < 40 → g6 k = fe k
def WF : PS → Prop
  | (N, T, A, B, to, pi, _, pl, go, _, _, _, _) => KL N ∧ KL T ∧ KL A ∧ KL B ∧ (N ++ T).Nodup ∧ N.length + T.length ≤ 12 ∧ A.length ≤ 12 ∧ B.length ≤ 12 ∧ 2 ≤ pl ∧ pl ≤ 12 ∧ go ≤ 12 ∧ (∀ k : Nat, to k ≤ 1) ∧ ∀ k : Nat, pi k ≤ 9
/-- pinned jars of a row -/
def pc (pi : Nat → Nat) (L : List Nat) : Nat := L.countP (fun k => decide (0 < pi k))
theorem pc_le (pi : Nat → Nat) (L : List Nat) : pc pi L ≤ L.length := List.countP_le_length
theorem pc_s {pi : Nat → Nat} {L : List Nat} {i : Nat} (h : i < L.length) : pc pi (L.take (i + 1)) = pc pi (L.take i) + (if 0 < pi (L.getD i 0) then 1 else 0) := by
  unfold pc
  rw [take_s h, List.countP_append, List.countP_singleton]
  by_cases e : 0 < pi (L.getD i 0) <;> simp only [e, decide_true, decide_false, if_true, if_false] <;> rfl
theorem pc_st {pi : Nat → Nat} {L : List Nat} {i : Nat} (h : i < L.length) (hp : 0 < pi (L.getD i 0)) : pc pi (L.take (i + 1)) = pc pi (L.take i) + 1 := by rw [pc_s h, if_pos hp]
theorem pc_sf {pi : Nat → Nat} {L : List Nat} {i : Nat} (h : i < L.length) (hp : ¬ 0 < pi (L.getD i 0)) : pc pi (L.take (i + 1)) = pc pi (L.take i) := by rw [pc_s h, if_neg hp, Nat.add_zero]
theorem pc_tl (pi : Nat → Nat) (L : List Nat) (i : Nat) : pc pi (L.take i) ≤ L.length := Nat.le_trans (pc_le pi _) (by rw [List.length_take]; omega)
/-- the shelf that gives: 0 new, 1 tried -/
def gv (N T : List Nat) (pi : Nat → Nat) (go : Nat) : Nat := if pc pi N < N.length ∧ (max 1 go ≤ N.length ∨ T.length ≤ pc pi T) then 0 else 1
/-- a list that forgets its eldest -/
def tr (m : Nat) (L : List Nat) : List Nat := L.drop (L.length - m)
/-- one jar is looked at -/
def lk : PS → PS × Option Nat
  | (N, T, A, B, to, pi, fe, pl, go, hi, mi, re, lo) =>
    if gv N T pi go = 0 then
      match N with
      | [] => ((N, T, A, B, to, pi, fe, pl, go, hi, mi, re, lo), none)
      | k :: N' =>
        if 0 < pi k then ((N' ++ [k], T, A, B, to, pi, fe, pl, go, hi, mi, re, lo + 1), none)
        else if 0 < to k then ((N', T ++ [k], A, B, va_up to k 0, pi, fe, pl, go, hi, mi, re, lo + 1), none)
        else ((N', T, tr pl (A ++ [k]), B, to, pi, fe, pl, go, hi, mi, re, lo + 1), some k)
    else
      match T with
      | [] => ((N, T, A, B, to, pi, fe, pl, go, hi, mi, re, lo), none)
      | k :: T' =>
        if 0 < pi k then ((N, T' ++ [k], A, B, to, pi, fe, pl, go, hi, mi, re, lo + 1), none)
        else if 0 < to k then ((N, T' ++ [k], A, B, va_up to k 0, pi, fe, pl, go, hi, mi, re, lo + 1), none)
        else ((N, T', A, tr pl (B ++ [k]), to, pi, fe, pl, go, hi, mi, re, lo + 1), some k)
/-- sweeping, of at most so many looks -/
def swN : Nat → PS → Option (PS × Nat)
  | 0, _ => none
  | n + 1, s => match lk s with
    | (s', some k) => some (s', k)
    | (s', none) => swN n s'
def pnd : PS → Nat
  | (N, T, _, _, _, pi, _) => pc pi N + pc pi T
def jrs : PS → Nat
  | (N, T, _) => N.length + T.length
/-- swept till one leaves -/
def sw (s : PS) : PS × Nat := (swN 200 s).getD (s, 0)
/-- what fetching would tell: 0 hit, 1 not remembered, 2 by new, 3 by tried, 4 it cannot be fetched -/
def oc : PS → Nat → Nat
  | (N, T, A, B, _, pi, _, pl, _), k => if k ∈ N ∨ k ∈ T then 0 else if pl ≤ N.length + T.length ∧ N.length + T.length ≤ pc pi N + pc pi T then 4 else if k ∈ A then 2 else if k ∈ B then 3 else 1
def ocI (n : Nat) : Int32 := if n = 4 then -9 else nI n
/-- by how much the goal turns -/
def tn (other own : List Nat) : Nat := max 1 (other.length / own.length)
def rcl : PS → Nat → Nat → PS
  | (N, T, A, B, to, pi, fe, pl, go, hi, mi, re, lo), k, o =>
    if o = 2 then (N, T, A.eraseIdx (A.idxOf k), B, to, pi, fe, pl, min pl (go + tn B A), hi, mi, re + 1, lo)
    else if o = 3 then (N, T, A, B.eraseIdx (B.idxOf k), to, pi, fe, pl, go - tn A B, hi, mi, re + 1, lo)
    else (N, T, A, B, to, pi, fe, pl, go, hi, mi, re, lo)
/-- a new jar -/
def plc : PS → Nat → Nat → PS
  | (N, T, A, B, to, pi, fe, pl, go, hi, mi, re, lo), k, o =>
    if o = 1 then (N ++ [k], T, A, B, va_up to k 0, va_up pi k 0, va_up fe k 1, pl, go, hi, mi, re, lo)
    else (N, T ++ [k], A, B, va_up to k 0, va_up pi k 0, va_up fe k 1, pl, go, hi, mi, re, lo)
def hitS : PS → Nat → PS
  | (N, T, A, B, to, pi, fe, pl, go, hi, mi, re, lo), k => (N, T, A, B, va_up to k 1, pi, va_up fe k (fe k + 1), pl, go, hi + 1, mi, re, lo)
def missS : PS → PS
  | (N, T, A, B, to, pi, fe, pl, go, hi, mi, re, lo) => (N, T, A, B, to, pi, fe, pl, go, hi, mi + 1, re, lo)
def plS : PS → Nat
  | (_, _, _, _, _, _, _, pl, _) => pl
def hiS : PS → Int32
  | (_, _, _, _, _, _, _, _, _, hi, _) => hi
/-- fetching a kind -/
def br (s : PS) (k : Nat) : PS :=
  let o := oc s k
  if o = 4 then s else if o = 0 then hitS s k else
    let s1 := rcl (missS s) k o
    plc (if plS s1 ≤ jrs s1 then (sw s1).1 else s1) k o
/-- fetching a series, from its i-th on -/
def srs (fr st : Nat) : Nat → Nat → PS → PS
  | 0, _, s => s
  | n + 1, i, s => srs fr st n (i + 1) (br s ((fr + i * st) % 40))
def swM (p : Nat) : Nat → PS → PS
  | 0, s => s
  | n + 1, s => if p < jrs s then swM p n (sw s).1 else s
def setPl (p : Nat) : PS → PS
  | (N, T, A, B, to, pi, fe, _, go, hi, mi, re, lo) => (N, T, A, B, to, pi, fe, p, go, hi, mi, re, lo)
def cutS (p : Nat) : PS → PS
  | (N, T, A, B, to, pi, fe, pl, go, hi, mi, re, lo) => (N, T, tr p A, tr p B, to, pi, fe, pl, min go p, hi, mi, re, lo)
/-- other places -/
def rsz (p : Nat) (s : PS) : PS := cutS p (swM p 12 (setPl p s))
/-- the cells of a store: a 0 the object, a 1 .. a 8 rows and their numbers, a 9 .. a 14 tables and their numbers -/
def wSt (D : va_G) (a : Nat → Nat) : PS → PG → va_W
  | (N, T, A, B, _, _, _, pl, go, hi, mi, re, lo), (g0, g1, g2, g3, g4, g5, g6) =>
    [(a 0, .inr (1, [.ref (a 1), .ref (a 3), .ref (a 5), .ref (a 7), .ref (a 9), .ref (a 11), .ref (a 13), .int (nI pl), .int (nI go), .int hi, .int mi, .int re, .int lo])),
     (a 1, .inr (0, [.ref (a 2), .int (nI N.length)])), (a 2, .inl (D.1 5, 40, .inl g0)), (a 3, .inr (0, [.ref (a 4), .int (nI T.length)])), (a 4, .inl (D.1 5, 40, .inl g1)),
     (a 5, .inr (0, [.ref (a 6), .int (nI A.length)])), (a 6, .inl (D.1 5, 40, .inl g2)), (a 7, .inr (0, [.ref (a 8), .int (nI B.length)])), (a 8, .inl (D.1 5, 40, .inl g3)),
     (a 9, .inr (2, [.ref (a 10)])), (a 10, .inl (D.1 5, 40, .inl g4)), (a 11, .inr (2, [.ref (a 12)])), (a 12, .inl (D.1 5, 40, .inl g5)), (a 13, .inr (2, [.ref (a 14)])), (a 14, .inl (D.1 5, 40, .inl g6))]
theorem nmax {a b : Nat} (ha : a < 2147483648) (hb : b < 2147483648) : (if nI a < nI b then nI b else nI a) = nI (max a b) := by
  by_cases h : a < b
  · rw [if_pos ((nI_ltI ha hb).mpr h), Nat.max_eq_right (Nat.le_of_lt h)]
  · rw [if_neg (fun z => h ((nI_ltI ha hb).mp z)), Nat.max_eq_left (by omega)]
theorem nmin {a b : Nat} (ha : a < 2147483648) (hb : b < 2147483648) : (if nI b < nI a then nI b else nI a) = nI (min a b) := by
  by_cases h : b < a
  · rw [if_pos ((nI_ltI hb ha).mpr h), Nat.min_eq_right (Nat.le_of_lt h)]
  · rw [if_neg (fun z => h ((nI_ltI hb ha).mp z)), Nat.min_eq_left (by omega)]
theorem ocI_n {n : Nat} (h : n ≠ 4) : ocI n = nI n := if_neg h
theorem ocI_4 : ocI 4 = -9 := if_pos rfl
theorem yn_oa {p q : Prop} [Decidable p] [Decidable q] (h : ¬ yn p = 0) : yn (p ∨ q) = 1 := yn_t (Or.inl (Classical.byContradiction (fun z => h (yn_f z))))
theorem yn_ob {p q : Prop} [Decidable p] [Decidable q] (h : ¬ yn q = 0) : yn (p ∨ q) = 1 := yn_t (Or.inr (Classical.byContradiction (fun z => h (yn_f z))))
theorem tn_le {x y : List Nat} (h : x.length ≤ 12) : tn x y ≤ 12 := by
  unfold tn
  have := Nat.div_le_self x.length y.length
  omega
theorem tn_ge {x y : List Nat} : 1 ≤ tn x y := Nat.le_max_left _ _
theorem nsubmax {a b : Nat} (ha : a < 1073741824) (hb : b < 1073741824) : (if nI 0 < nI a - nI b then nI a - nI b else nI 0) = nI (a - b) := by
  by_cases h : b ≤ a
  · rw [pk_sub h]
    by_cases h2 : 0 < a - b
    · rw [if_pos ((nI_ltI (by decide) (by omega)).mpr h2)]
    · rw [if_neg (fun z => h2 ((nI_ltI (by decide) (by omega)).mp z)), show a - b = 0 by omega]
  · have h1 : nI a - nI b < 0 := pk_sneg hb (by omega)
    rw [if_neg (fun z => by rw [nI_0] at z; exact Int32.lt_irrefl (Int32.lt_trans z h1)), show a - b = 0 by omega]
theorem tup {g : Nat → Int32} {t : Nat → Nat} (h : ∀ k : Nat, k < 40 → g k = nI (t k)) (k x : Nat) : ∀ j : Nat, j < 40 → upd g k (nI x) j = nI (va_up t k x j) := by
  intro j hj
  by_cases e : j = k
  · subst e
    rw [upd_s]
    simp [va_up]
  · rw [upd_n e, h j hj]
    simp [va_up, e]
theorem tupI {g : Nat → Int32} {t : Nat → Int32} (h : ∀ k : Nat, k < 40 → g k = t k) (k : Nat) (x : Int32) : ∀ j : Nat, j < 40 → upd g k x j = va_up t k x j := by
  intro j hj
  by_cases e : j = k
  · subst e
    rw [upd_s]
    simp [va_up]
  · rw [upd_n e, h j hj]
    simp [va_up, e]
/-- without a kind, where it is there -/
def ea (L : List Nat) (k : Nat) : List Nat := if k ∈ L then L.eraseIdx (L.idxOf k) else L
theorem gv_01 (N T : List Nat) (pi : Nat → Nat) (go : Nat) : gv N T pi go = 0 ∨ gv N T pi go = 1 := by unfold gv; split <;> simp
theorem gv_0 {N T : List Nat} {pi : Nat → Nat} {go : Nat} (h : gv N T pi go = 0) : ∃ (k : Nat) (N' : List Nat), N = k :: N' := by
  cases N with
  | nil =>
    unfold gv at h
    rw [if_neg (fun z => absurd z.1 (Nat.not_lt_zero _))] at h
    cases h
  | cons k N' => exact ⟨k, N', rfl⟩
theorem gv_1 {N T : List Nat} {pi : Nat → Nat} {go : Nat} (h : gv N T pi go = 1) (hp : pc pi N + pc pi T < N.length + T.length) : ∃ (k : Nat) (T' : List Nat), T = k :: T' := by
  cases T with
  | nil =>
    unfold gv at h
    rw [if_pos ⟨by simpa [pc] using hp, Or.inr (Nat.zero_le _)⟩] at h
    cases h
  | cons k T' => exact ⟨k, T', rfl⟩
theorem swN_pos {n : Nat} {s : PS} {r : PS × Nat} (h : swN n s = some r) : ∃ m : Nat, n = m + 1 := by
  cases n with
  | zero => cases h
  | succ m => exact ⟨m, rfl⟩
theorem swN_n {n : Nat} {s s1 : PS} {r : PS × Nat} (h : swN (n + 1) s = some r) (e : lk s = (s1, none)) : swN n s1 = some r := by
  simp only [swN, e] at h
  exact h
theorem swN_e {n : Nat} {s s1 s' : PS} {k k' : Nat} (h : swN (n + 1) s = some (s', k')) (e : lk s = (s1, some k)) : s1 = s' ∧ k = k' := by
  simp only [swN, e] at h
  cases h
  exact ⟨rfl, rfl⟩
section LKs
variable {k : Nat} {N T A B N' T' : List Nat} {to pi : Nat → Nat} {fe : Nat → Int32} {pl go : Nat} {hi mi re lo : Int32}
theorem lk_0p (hg : gv (k :: N') T pi go = 0) (hp : 0 < pi k) : lk (k :: N', T, A, B, to, pi, fe, pl, go, hi, mi, re, lo) = ((N' ++ [k], T, A, B, to, pi, fe, pl, go, hi, mi, re, lo + 1), none) := by
  show (if _ then _ else _) = _
  rw [if_pos hg]
  show (if _ then _ else _) = _
  rw [if_pos hp]
theorem lk_0t (hg : gv (k :: N') T pi go = 0) (hp : pi k = 0) (ht : 0 < to k) : lk (k :: N', T, A, B, to, pi, fe, pl, go, hi, mi, re, lo) = ((N', T ++ [k], A, B, va_up to k 0, pi, fe, pl, go, hi, mi, re, lo + 1), none) := by
  show (if _ then _ else _) = _
  rw [if_pos hg]
  show (if _ then _ else _) = _
  rw [if_neg (by omega)]
  show (if _ then _ else _) = _
  rw [if_pos ht]
theorem lk_0l (hg : gv (k :: N') T pi go = 0) (hp : pi k = 0) (ht : to k = 0) : lk (k :: N', T, A, B, to, pi, fe, pl, go, hi, mi, re, lo) = ((N', T, tr pl (A ++ [k]), B, to, pi, fe, pl, go, hi, mi, re, lo + 1), some k) := by
  show (if _ then _ else _) = _
  rw [if_pos hg]
  show (if _ then _ else _) = _
  rw [if_neg (by omega)]
  show (if _ then _ else _) = _
  rw [if_neg (by omega)]
theorem lk_1p (hg : gv N (k :: T') pi go = 1) (hp : 0 < pi k) : lk (N, k :: T', A, B, to, pi, fe, pl, go, hi, mi, re, lo) = ((N, T' ++ [k], A, B, to, pi, fe, pl, go, hi, mi, re, lo + 1), none) := by
  show (if _ then _ else _) = _
  rw [if_neg (by omega)]
  show (if _ then _ else _) = _
  rw [if_pos hp]
theorem lk_1t (hg : gv N (k :: T') pi go = 1) (hp : pi k = 0) (ht : 0 < to k) : lk (N, k :: T', A, B, to, pi, fe, pl, go, hi, mi, re, lo) = ((N, T' ++ [k], A, B, va_up to k 0, pi, fe, pl, go, hi, mi, re, lo + 1), none) := by
  show (if _ then _ else _) = _
  rw [if_neg (by omega)]
  show (if _ then _ else _) = _
  rw [if_neg (by omega)]
  show (if _ then _ else _) = _
  rw [if_pos ht]
theorem lk_1l (hg : gv N (k :: T') pi go = 1) (hp : pi k = 0) (ht : to k = 0) : lk (N, k :: T', A, B, to, pi, fe, pl, go, hi, mi, re, lo) = ((N, T', A, tr pl (B ++ [k]), to, pi, fe, pl, go, hi, mi, re, lo + 1), some k) := by
  show (if _ then _ else _) = _
  rw [if_neg (by omega)]
  show (if _ then _ else _) = _
  rw [if_neg (by omega)]
  show (if _ then _ else _) = _
  rw [if_neg (by omega)]
/-- the six ways of a look, where some jar is not pinned -/
theorem lk_six (hpj : pc pi N + pc pi T < N.length + T.length) : (∃ (k : Nat) (N' : List Nat), N = k :: N' ∧ gv N T pi go = 0 ∧ (0 < pi k ∨ (pi k = 0 ∧ 0 < to k) ∨ (pi k = 0 ∧ to k = 0))) ∨ (∃ (k : Nat) (T' : List Nat), T = k :: T' ∧ gv N T pi go = 1 ∧ (0 < pi k ∨ (pi k = 0 ∧ 0 < to k) ∨ (pi k = 0 ∧ to k = 0))) := by
  have c3 : ∀ k : Nat, 0 < pi k ∨ (pi k = 0 ∧ 0 < to k) ∨ (pi k = 0 ∧ to k = 0) := fun k => by omega
  rcases gv_01 N T pi go with h | h
  · obtain ⟨k, N', e⟩ := gv_0 h
    exact Or.inl ⟨k, N', e, h, c3 k⟩
  · obtain ⟨k, T', e⟩ := gv_1 h hpj
    exact Or.inr ⟨k, T', e, h, c3 k⟩
end LKs
theorem tr_len (m : Nat) (L : List Nat) : (tr m L).length = min m L.length := by
  unfold tr
  rw [List.length_drop]
  omega
theorem KL.tr {L : List Nat} (h : KL L) (m : Nat) : KL (tr m L) := h.drop _
theorem pc_cons (pi : Nat → Nat) (k : Nat) (L : List Nat) : pc pi (k :: L) = pc pi L + (if 0 < pi k then 1 else 0) := by
  unfold pc
  rw [List.countP_cons]
  by_cases e : 0 < pi k <;> simp [e]
theorem pc_snoc (pi : Nat → Nat) (k : Nat) (L : List Nat) : pc pi (L ++ [k]) = pc pi L + (if 0 < pi k then 1 else 0) := by
  unfold pc
  rw [List.countP_append, List.countP_singleton]
  by_cases e : 0 < pi k <;> simp [e]
theorem up_le {t : Nat → Nat} {m : Nat} (h : ∀ k : Nat, t k ≤ m) (k x : Nat) (hx : x ≤ m) : ∀ j : Nat, va_up t k x j ≤ m := by
  intro j
  unfold va_up
  split
  · exact hx
  · exact h j
/-- a look keeps what a pantry is -/
theorem lk_wf {s : PS} (h : WF s) (hpj : pnd s < jrs s) : WF (lk s).1 := by
  obtain ⟨N, T, A, B, to, pi, fe, pl, go, hi, mi, re, lo⟩ := s
  obtain ⟨kN, kT, kA, kB, nd, len, lA, lB, p2, p12, g12, t1, p9⟩ := h
  rcases lk_six (N := N) (T := T) (pi := pi) (to := to) (go := go) hpj with ⟨k, N', rfl, hg, h | h | h⟩ | ⟨k, T', rfl, hg, h | h | h⟩
  · rw [lk_0p hg h]
    refine ⟨KL.push (fun x hx => kN x (List.mem_cons_of_mem _ hx)) (kN k List.mem_cons_self), kT, kA, kB, ?_, ?_, lA, lB, p2, p12, g12, t1, p9⟩
    · refine (List.Perm.nodup_iff ?_).mp nd
      exact (List.perm_append_singleton k N').symm.append_right T
    · simp only [List.length_append, List.length_cons, List.length_nil] at len ⊢; omega
  · rw [lk_0t hg h.1 h.2]
    refine ⟨fun x hx => kN x (List.mem_cons_of_mem _ hx), kT.push (kN k List.mem_cons_self), kA, kB, ?_, ?_, lA, lB, p2, p12, g12, up_le t1 k 0 (by omega), p9⟩
    · refine (List.Perm.nodup_iff ?_).mp nd
      rw [← List.append_assoc]
      exact (List.perm_append_singleton k (N' ++ T)).symm
    · simp only [List.length_append, List.length_cons, List.length_nil] at len ⊢; omega
  · rw [lk_0l hg h.1 h.2]
    refine ⟨fun x hx => kN x (List.mem_cons_of_mem _ hx), kT, (kA.push (kN k List.mem_cons_self)).tr pl, kB, (List.nodup_cons.mp nd).2, ?_, ?_, lB, p2, p12, g12, t1, p9⟩
    · simp only [List.length_cons] at len; omega
    · rw [tr_len]; omega
  · rw [lk_1p hg h]
    refine ⟨kN, KL.push (fun x hx => kT x (List.mem_cons_of_mem _ hx)) (kT k List.mem_cons_self), kA, kB, ?_, ?_, lA, lB, p2, p12, g12, t1, p9⟩
    · refine (List.Perm.nodup_iff ?_).mp nd
      exact (List.perm_append_singleton k T').symm.append_left N
    · simp only [List.length_append, List.length_cons, List.length_nil] at len ⊢; omega
  · rw [lk_1t hg h.1 h.2]
    refine ⟨kN, KL.push (fun x hx => kT x (List.mem_cons_of_mem _ hx)) (kT k List.mem_cons_self), kA, kB, ?_, ?_, lA, lB, p2, p12, g12, up_le t1 k 0 (by omega), p9⟩
    · refine (List.Perm.nodup_iff ?_).mp nd
      exact (List.perm_append_singleton k T').symm.append_left N
    · simp only [List.length_append, List.length_cons, List.length_nil] at len ⊢; omega
  · rw [lk_1l hg h.1 h.2]
    refine ⟨kN, fun x hx => kT x (List.mem_cons_of_mem _ hx), kA, (kB.push (kT k List.mem_cons_self)).tr pl, ?_, ?_, lA, ?_, p2, p12, g12, t1, p9⟩
    · exact nd.sublist (List.Sublist.append (List.Sublist.refl N) (List.sublist_cons_self k T'))
    · simp only [List.length_cons] at len; omega
    · rw [tr_len]; omega
/-- .. and how many are pinned, and how many there are -/
theorem lk_pj {s : PS} (hpj : pnd s < jrs s) : pnd (lk s).1 = pnd s ∧ jrs (lk s).1 + (if (lk s).2 = none then 0 else 1) = jrs s ∧ plS (lk s).1 = plS s := by
  obtain ⟨N, T, A, B, to, pi, fe, pl, go, hi, mi, re, lo⟩ := s
  rcases lk_six (N := N) (T := T) (pi := pi) (to := to) (go := go) hpj with ⟨k, N', rfl, hg, h | h | h⟩ | ⟨k, T', rfl, hg, h | h | h⟩
  · rw [lk_0p hg h]
    simp [pnd, jrs, plS, pc_cons, pc_snoc]
  · rw [lk_0t hg h.1 h.2]
    simp [pnd, jrs, plS, pc_cons, pc_snoc, h.1]
    omega
  · rw [lk_0l hg h.1 h.2]
    simp [pnd, jrs, plS, pc_cons, pc_snoc, h.1]
    omega
  · rw [lk_1p hg h]
    simp [pnd, jrs, plS, pc_cons, pc_snoc]
  · rw [lk_1t hg h.1 h.2]
    simp [pnd, jrs, plS, pc_cons, pc_snoc, h.1]
  · rw [lk_1l hg h.1 h.2]
    simp [pnd, jrs, plS, pc_cons, pc_snoc, h.1]
    omega
theorem wf_tl0 {k : Nat} {N T A B : List Nat} {to pi : Nat → Nat} {fe : Nat → Int32} {pl go : Nat} {hi mi re lo lo' : Int32} (h : WF (k :: N, T, A, B, to, pi, fe, pl, go, hi, mi, re, lo)) : WF (N, T, A, B, to, pi, fe, pl, go, hi, mi, re, lo') := by
  obtain ⟨kN, kT, kA, kB, nd, len, h⟩ := h
  exact ⟨fun x hx => kN x (List.mem_cons_of_mem _ hx), kT, kA, kB, (List.nodup_cons.mp nd).2, by simp only [List.length_cons] at len; omega, h⟩
theorem wf_tl1 {k : Nat} {N T A B : List Nat} {to pi : Nat → Nat} {fe : Nat → Int32} {pl go : Nat} {hi mi re lo lo' : Int32} (h : WF (N, k :: T, A, B, to, pi, fe, pl, go, hi, mi, re, lo)) : WF (N, T, A, B, to, pi, fe, pl, go, hi, mi, re, lo') := by
  obtain ⟨kN, kT, kA, kB, nd, len, h⟩ := h
  exact ⟨kN, fun x hx => kT x (List.mem_cons_of_mem _ hx), kA, kB, nd.sublist (List.Sublist.append (List.Sublist.refl N) (List.sublist_cons_self k T)), by simp only [List.length_cons] at len; omega, h⟩
end
section
/-! PinnedPantry$Store: what is asked of it -/
set_option maxHeartbeats 4000000 in
set_option maxRecDepth 100000 in
/-- jars() -/
theorem c_X1_jars (l : Launch) (D : va_G) (a : Nat → Nat) (N T A B : List Nat) (to pi : Nat → Nat) (fe : Nat → Int32) (pl go : Nat) (hi mi re lo : Int32) (g0 g1 g2 g3 g4 g5 g6 : Nat → Int32) (hS : SR (N, T, A, B, to, pi, fe, pl, go, hi, mi, re, lo) (g0, g1, g2, g3, g4, g5, g6)) (hW : WF (N, T, A, B, to, pi, fe, pl, go, hi, mi, re, lo)) : MU l yX1_jars cX1_jars 1 (some .int) 0 0 D [.ref (a 0)] [((a 0), .inr (1, [.ref (a 1), .ref (a 3), .ref (a 5), .ref (a 7), .ref (a 9), .ref (a 11), .ref (a 13), .int (nI pl), .int (nI go), .int hi, .int mi, .int re, .int lo])), ((a 1), .inr (0, [.ref (a 2), .int (nI N.length)])), ((a 2), .inl (D.1 5, 40, .inl g0)), ((a 3), .inr (0, [.ref (a 4), .int (nI T.length)])), ((a 4), .inl (D.1 5, 40, .inl g1)), ((a 5), .inr (0, [.ref (a 6), .int (nI A.length)])), ((a 6), .inl (D.1 5, 40, .inl g2)), ((a 7), .inr (0, [.ref (a 8), .int (nI B.length)])), ((a 8), .inl (D.1 5, 40, .inl g3)), ((a 9), .inr (2, [.ref (a 10)])), ((a 10), .inl (D.1 5, 40, .inl g4)), ((a 11), .inr (2, [.ref (a 12)])), ((a 12), .inl (D.1 5, 40, .inl g5)), ((a 13), .inr (2, [.ref (a 14)])), ((a 14), .inl (D.1 5, 40, .inl g6))] (fun v (_ : Unit) => v = some (.int (nI (N.length + T.length)))) (fun _ => [((a 0), .inr (1, [.ref (a 1), .ref (a 3), .ref (a 5), .ref (a 7), .ref (a 9), .ref (a 11), .ref (a 13), .int (nI pl), .int (nI go), .int hi, .int mi, .int re, .int lo])), ((a 1), .inr (0, [.ref (a 2), .int (nI N.length)])), ((a 2), .inl (D.1 5, 40, .inl g0)), ((a 3), .inr (0, [.ref (a 4), .int (nI T.length)])), ((a 4), .inl (D.1 5, 40, .inl g1)), ((a 5), .inr (0, [.ref (a 6), .int (nI A.length)])), ((a 6), .inl (D.1 5, 40, .inl g2)), ((a 7), .inr (0, [.ref (a 8), .int (nI B.length)])), ((a 8), .inl (D.1 5, 40, .inl g3)), ((a 9), .inr (2, [.ref (a 10)])), ((a 10), .inl (D.1 5, 40, .inl g4)), ((a 11), .inr (2, [.ref (a 12)])), ((a 12), .inl (D.1 5, 40, .inl g5)), ((a 13), .inr (2, [.ref (a 14)])), ((a 14), .inl (D.1 5, 40, .inl g6))]) 0 0 := by
  refine MU.enter (by decide) [(0, .ref (a 0))] rfl (Nat.le_of_ble_eq_true rfl) (fun G hC hE => ?_)
  have hC : CX G D cX1_jars RX1 1 := hC
  refine k_aload_n hC 0 dX1_jars_0 rfl ?_
  refine k_getf hC 1 0 0 dX1_jars_1 rfl rfl inlX1 (by decide) wq_2_1 rfl ?_
  refine k_getfN hC 4 1 1 dX1_jars_4 rfl rfl inlX0 (by decide) hC.kt.2.1 rfl ?_
  refine k_aload_n hC 7 dX1_jars_7 rfl ?_
  refine k_getf hC 8 0 1 dX1_jars_8 rfl rfl inlX1 (by decide) wq_2_2 rfl ?_
  refine k_getfN hC 11 3 1 dX1_jars_11 rfl rfl inlX0 (by decide) hC.kt.2.1 rfl ?_
  refine n_iadd hC 14 (N.length + T.length) dX1_jars_14 rfl ?_
  exact k_iret hC hE 15 () dX1_jars_15 rfl rfl rfl ⟨Nat.zero_le _, Nat.zero_le _⟩
set_option maxHeartbeats 4000000 in
set_option maxRecDepth 100000 in
theorem c_X1_rowOf0 (l : Launch) (D : va_G) (a : Nat → Nat) (N T A B : List Nat) (to pi : Nat → Nat) (fe : Nat → Int32) (pl go : Nat) (hi mi re lo : Int32) (g0 g1 g2 g3 g4 g5 g6 : Nat → Int32) (hS : SR (N, T, A, B, to, pi, fe, pl, go, hi, mi, re, lo) (g0, g1, g2, g3, g4, g5, g6)) (hW : WF (N, T, A, B, to, pi, fe, pl, go, hi, mi, re, lo)) : MU l yX1_rowOf cX1_rowOf 2 (some (.object "PinnedPantry$Row")) 0 0 D [.ref (a 0), .int (nI 0)] [((a 0), .inr (1, [.ref (a 1), .ref (a 3), .ref (a 5), .ref (a 7), .ref (a 9), .ref (a 11), .ref (a 13), .int (nI pl), .int (nI go), .int hi, .int mi, .int re, .int lo])), ((a 1), .inr (0, [.ref (a 2), .int (nI N.length)])), ((a 2), .inl (D.1 5, 40, .inl g0)), ((a 3), .inr (0, [.ref (a 4), .int (nI T.length)])), ((a 4), .inl (D.1 5, 40, .inl g1)), ((a 5), .inr (0, [.ref (a 6), .int (nI A.length)])), ((a 6), .inl (D.1 5, 40, .inl g2)), ((a 7), .inr (0, [.ref (a 8), .int (nI B.length)])), ((a 8), .inl (D.1 5, 40, .inl g3)), ((a 9), .inr (2, [.ref (a 10)])), ((a 10), .inl (D.1 5, 40, .inl g4)), ((a 11), .inr (2, [.ref (a 12)])), ((a 12), .inl (D.1 5, 40, .inl g5)), ((a 13), .inr (2, [.ref (a 14)])), ((a 14), .inl (D.1 5, 40, .inl g6))] (fun v (_ : Unit) => v = some (.ref (a 1))) (fun _ => [((a 0), .inr (1, [.ref (a 1), .ref (a 3), .ref (a 5), .ref (a 7), .ref (a 9), .ref (a 11), .ref (a 13), .int (nI pl), .int (nI go), .int hi, .int mi, .int re, .int lo])), ((a 1), .inr (0, [.ref (a 2), .int (nI N.length)])), ((a 2), .inl (D.1 5, 40, .inl g0)), ((a 3), .inr (0, [.ref (a 4), .int (nI T.length)])), ((a 4), .inl (D.1 5, 40, .inl g1)), ((a 5), .inr (0, [.ref (a 6), .int (nI A.length)])), ((a 6), .inl (D.1 5, 40, .inl g2)), ((a 7), .inr (0, [.ref (a 8), .int (nI B.length)])), ((a 8), .inl (D.1 5, 40, .inl g3)), ((a 9), .inr (2, [.ref (a 10)])), ((a 10), .inl (D.1 5, 40, .inl g4)), ((a 11), .inr (2, [.ref (a 12)])), ((a 12), .inl (D.1 5, 40, .inl g5)), ((a 13), .inr (2, [.ref (a 14)])), ((a 14), .inl (D.1 5, 40, .inl g6))]) 0 0 := by
  refine MU.enter (by decide) [(0, .ref (a 0)), (1, .int (nI 0))] rfl (Nat.le_of_ble_eq_true rfl) (fun G hC hE => ?_)
  have hC : CX G D cX1_rowOf RX1 2 := hC
  refine k_iload_n hC 0 dX1_rowOf_0 rfl ?_
  refine n_if_ne hC 1 11 dX1_rowOf_1 (by decide) (by omega) (fun h1 => ?_) (fun h1 => ?_)
  · skip
    exact absurd h1 (by decide)
  · skip
    refine k_aload_n hC 4 dX1_rowOf_4 rfl ?_
    refine k_getf hC 5 0 0 dX1_rowOf_5 rfl rfl inlX1 (by decide) wq_2_1 rfl ?_
    refine k_goto hC 8 15 dX1_rowOf_8 (by decide) ?_
    exact k_aret hC hE 15 () dX1_rowOf_15 (Or.inl ⟨_, rfl⟩) rfl rfl ⟨Nat.zero_le _, Nat.zero_le _⟩
set_option maxHeartbeats 4000000 in
set_option maxRecDepth 100000 in
theorem c_X1_listOf0 (l : Launch) (D : va_G) (a : Nat → Nat) (N T A B : List Nat) (to pi : Nat → Nat) (fe : Nat → Int32) (pl go : Nat) (hi mi re lo : Int32) (g0 g1 g2 g3 g4 g5 g6 : Nat → Int32) (hS : SR (N, T, A, B, to, pi, fe, pl, go, hi, mi, re, lo) (g0, g1, g2, g3, g4, g5, g6)) (hW : WF (N, T, A, B, to, pi, fe, pl, go, hi, mi, re, lo)) : MU l yX1_listOf cX1_listOf 2 (some (.object "PinnedPantry$Row")) 0 0 D [.ref (a 0), .int (nI 0)] [((a 0), .inr (1, [.ref (a 1), .ref (a 3), .ref (a 5), .ref (a 7), .ref (a 9), .ref (a 11), .ref (a 13), .int (nI pl), .int (nI go), .int hi, .int mi, .int re, .int lo])), ((a 1), .inr (0, [.ref (a 2), .int (nI N.length)])), ((a 2), .inl (D.1 5, 40, .inl g0)), ((a 3), .inr (0, [.ref (a 4), .int (nI T.length)])), ((a 4), .inl (D.1 5, 40, .inl g1)), ((a 5), .inr (0, [.ref (a 6), .int (nI A.length)])), ((a 6), .inl (D.1 5, 40, .inl g2)), ((a 7), .inr (0, [.ref (a 8), .int (nI B.length)])), ((a 8), .inl (D.1 5, 40, .inl g3)), ((a 9), .inr (2, [.ref (a 10)])), ((a 10), .inl (D.1 5, 40, .inl g4)), ((a 11), .inr (2, [.ref (a 12)])), ((a 12), .inl (D.1 5, 40, .inl g5)), ((a 13), .inr (2, [.ref (a 14)])), ((a 14), .inl (D.1 5, 40, .inl g6))] (fun v (_ : Unit) => v = some (.ref (a 5))) (fun _ => [((a 0), .inr (1, [.ref (a 1), .ref (a 3), .ref (a 5), .ref (a 7), .ref (a 9), .ref (a 11), .ref (a 13), .int (nI pl), .int (nI go), .int hi, .int mi, .int re, .int lo])), ((a 1), .inr (0, [.ref (a 2), .int (nI N.length)])), ((a 2), .inl (D.1 5, 40, .inl g0)), ((a 3), .inr (0, [.ref (a 4), .int (nI T.length)])), ((a 4), .inl (D.1 5, 40, .inl g1)), ((a 5), .inr (0, [.ref (a 6), .int (nI A.length)])), ((a 6), .inl (D.1 5, 40, .inl g2)), ((a 7), .inr (0, [.ref (a 8), .int (nI B.length)])), ((a 8), .inl (D.1 5, 40, .inl g3)), ((a 9), .inr (2, [.ref (a 10)])), ((a 10), .inl (D.1 5, 40, .inl g4)), ((a 11), .inr (2, [.ref (a 12)])), ((a 12), .inl (D.1 5, 40, .inl g5)), ((a 13), .inr (2, [.ref (a 14)])), ((a 14), .inl (D.1 5, 40, .inl g6))]) 0 0 := by
  refine MU.enter (by decide) [(0, .ref (a 0)), (1, .int (nI 0))] rfl (Nat.le_of_ble_eq_true rfl) (fun G hC hE => ?_)
  have hC : CX G D cX1_listOf RX1 2 := hC
  refine k_iload_n hC 0 dX1_listOf_0 rfl ?_
  refine n_if_ne hC 1 11 dX1_listOf_1 (by decide) (by omega) (fun h1 => ?_) (fun h1 => ?_)
  · skip
    exact absurd h1 (by decide)
  · skip
    refine k_aload_n hC 4 dX1_listOf_4 rfl ?_
    refine k_getf hC 5 0 2 dX1_listOf_5 rfl rfl inlX1 (by decide) wq_2_3 rfl ?_
    refine k_goto hC 8 15 dX1_listOf_8 (by decide) ?_
    exact k_aret hC hE 15 () dX1_listOf_15 (Or.inl ⟨_, rfl⟩) rfl rfl ⟨Nat.zero_le _, Nat.zero_le _⟩
set_option maxHeartbeats 4000000 in
set_option maxRecDepth 100000 in
theorem c_X1_rowOf1 (l : Launch) (D : va_G) (a : Nat → Nat) (N T A B : List Nat) (to pi : Nat → Nat) (fe : Nat → Int32) (pl go : Nat) (hi mi re lo : Int32) (g0 g1 g2 g3 g4 g5 g6 : Nat → Int32) (hS : SR (N, T, A, B, to, pi, fe, pl, go, hi, mi, re, lo) (g0, g1, g2, g3, g4, g5, g6)) (hW : WF (N, T, A, B, to, pi, fe, pl, go, hi, mi, re, lo)) : MU l yX1_rowOf cX1_rowOf 2 (some (.object "PinnedPantry$Row")) 0 0 D [.ref (a 0), .int (nI 1)] [((a 0), .inr (1, [.ref (a 1), .ref (a 3), .ref (a 5), .ref (a 7), .ref (a 9), .ref (a 11), .ref (a 13), .int (nI pl), .int (nI go), .int hi, .int mi, .int re, .int lo])), ((a 1), .inr (0, [.ref (a 2), .int (nI N.length)])), ((a 2), .inl (D.1 5, 40, .inl g0)), ((a 3), .inr (0, [.ref (a 4), .int (nI T.length)])), ((a 4), .inl (D.1 5, 40, .inl g1)), ((a 5), .inr (0, [.ref (a 6), .int (nI A.length)])), ((a 6), .inl (D.1 5, 40, .inl g2)), ((a 7), .inr (0, [.ref (a 8), .int (nI B.length)])), ((a 8), .inl (D.1 5, 40, .inl g3)), ((a 9), .inr (2, [.ref (a 10)])), ((a 10), .inl (D.1 5, 40, .inl g4)), ((a 11), .inr (2, [.ref (a 12)])), ((a 12), .inl (D.1 5, 40, .inl g5)), ((a 13), .inr (2, [.ref (a 14)])), ((a 14), .inl (D.1 5, 40, .inl g6))] (fun v (_ : Unit) => v = some (.ref (a 3))) (fun _ => [((a 0), .inr (1, [.ref (a 1), .ref (a 3), .ref (a 5), .ref (a 7), .ref (a 9), .ref (a 11), .ref (a 13), .int (nI pl), .int (nI go), .int hi, .int mi, .int re, .int lo])), ((a 1), .inr (0, [.ref (a 2), .int (nI N.length)])), ((a 2), .inl (D.1 5, 40, .inl g0)), ((a 3), .inr (0, [.ref (a 4), .int (nI T.length)])), ((a 4), .inl (D.1 5, 40, .inl g1)), ((a 5), .inr (0, [.ref (a 6), .int (nI A.length)])), ((a 6), .inl (D.1 5, 40, .inl g2)), ((a 7), .inr (0, [.ref (a 8), .int (nI B.length)])), ((a 8), .inl (D.1 5, 40, .inl g3)), ((a 9), .inr (2, [.ref (a 10)])), ((a 10), .inl (D.1 5, 40, .inl g4)), ((a 11), .inr (2, [.ref (a 12)])), ((a 12), .inl (D.1 5, 40, .inl g5)), ((a 13), .inr (2, [.ref (a 14)])), ((a 14), .inl (D.1 5, 40, .inl g6))]) 0 0 := by
  refine MU.enter (by decide) [(0, .ref (a 0)), (1, .int (nI 1))] rfl (Nat.le_of_ble_eq_true rfl) (fun G hC hE => ?_)
  have hC : CX G D cX1_rowOf RX1 2 := hC
  refine k_iload_n hC 0 dX1_rowOf_0 rfl ?_
  refine n_if_ne hC 1 11 dX1_rowOf_1 (by decide) (by omega) (fun h1 => ?_) (fun h1 => ?_)
  · skip
    refine k_aload_n hC 11 dX1_rowOf_11 rfl ?_
    refine k_getf hC 12 0 1 dX1_rowOf_12 rfl rfl inlX1 (by decide) wq_2_2 rfl ?_
    exact k_aret hC hE 15 () dX1_rowOf_15 (Or.inl ⟨_, rfl⟩) rfl rfl ⟨Nat.zero_le _, Nat.zero_le _⟩
  · skip
    exact absurd h1 (by decide)
set_option maxHeartbeats 4000000 in
set_option maxRecDepth 100000 in
theorem c_X1_listOf1 (l : Launch) (D : va_G) (a : Nat → Nat) (N T A B : List Nat) (to pi : Nat → Nat) (fe : Nat → Int32) (pl go : Nat) (hi mi re lo : Int32) (g0 g1 g2 g3 g4 g5 g6 : Nat → Int32) (hS : SR (N, T, A, B, to, pi, fe, pl, go, hi, mi, re, lo) (g0, g1, g2, g3, g4, g5, g6)) (hW : WF (N, T, A, B, to, pi, fe, pl, go, hi, mi, re, lo)) : MU l yX1_listOf cX1_listOf 2 (some (.object "PinnedPantry$Row")) 0 0 D [.ref (a 0), .int (nI 1)] [((a 0), .inr (1, [.ref (a 1), .ref (a 3), .ref (a 5), .ref (a 7), .ref (a 9), .ref (a 11), .ref (a 13), .int (nI pl), .int (nI go), .int hi, .int mi, .int re, .int lo])), ((a 1), .inr (0, [.ref (a 2), .int (nI N.length)])), ((a 2), .inl (D.1 5, 40, .inl g0)), ((a 3), .inr (0, [.ref (a 4), .int (nI T.length)])), ((a 4), .inl (D.1 5, 40, .inl g1)), ((a 5), .inr (0, [.ref (a 6), .int (nI A.length)])), ((a 6), .inl (D.1 5, 40, .inl g2)), ((a 7), .inr (0, [.ref (a 8), .int (nI B.length)])), ((a 8), .inl (D.1 5, 40, .inl g3)), ((a 9), .inr (2, [.ref (a 10)])), ((a 10), .inl (D.1 5, 40, .inl g4)), ((a 11), .inr (2, [.ref (a 12)])), ((a 12), .inl (D.1 5, 40, .inl g5)), ((a 13), .inr (2, [.ref (a 14)])), ((a 14), .inl (D.1 5, 40, .inl g6))] (fun v (_ : Unit) => v = some (.ref (a 7))) (fun _ => [((a 0), .inr (1, [.ref (a 1), .ref (a 3), .ref (a 5), .ref (a 7), .ref (a 9), .ref (a 11), .ref (a 13), .int (nI pl), .int (nI go), .int hi, .int mi, .int re, .int lo])), ((a 1), .inr (0, [.ref (a 2), .int (nI N.length)])), ((a 2), .inl (D.1 5, 40, .inl g0)), ((a 3), .inr (0, [.ref (a 4), .int (nI T.length)])), ((a 4), .inl (D.1 5, 40, .inl g1)), ((a 5), .inr (0, [.ref (a 6), .int (nI A.length)])), ((a 6), .inl (D.1 5, 40, .inl g2)), ((a 7), .inr (0, [.ref (a 8), .int (nI B.length)])), ((a 8), .inl (D.1 5, 40, .inl g3)), ((a 9), .inr (2, [.ref (a 10)])), ((a 10), .inl (D.1 5, 40, .inl g4)), ((a 11), .inr (2, [.ref (a 12)])), ((a 12), .inl (D.1 5, 40, .inl g5)), ((a 13), .inr (2, [.ref (a 14)])), ((a 14), .inl (D.1 5, 40, .inl g6))]) 0 0 := by
  refine MU.enter (by decide) [(0, .ref (a 0)), (1, .int (nI 1))] rfl (Nat.le_of_ble_eq_true rfl) (fun G hC hE => ?_)
  have hC : CX G D cX1_listOf RX1 2 := hC
  refine k_iload_n hC 0 dX1_listOf_0 rfl ?_
  refine n_if_ne hC 1 11 dX1_listOf_1 (by decide) (by omega) (fun h1 => ?_) (fun h1 => ?_)
  · skip
    refine k_aload_n hC 11 dX1_listOf_11 rfl ?_
    refine k_getf hC 12 0 3 dX1_listOf_12 rfl rfl inlX1 (by decide) wq_2_4 rfl ?_
    exact k_aret hC hE 15 () dX1_listOf_15 (Or.inl ⟨_, rfl⟩) rfl rfl ⟨Nat.zero_le _, Nat.zero_le _⟩
  · skip
    exact absurd h1 (by decide)
set_option maxHeartbeats 4000000 in
set_option maxRecDepth 100000 in
/-- listOf, whatever the rows are -/
theorem c_X1_listOf0q (l : Launch) (D : va_G) (a : Nat → Nat) (N T A B : List Nat) (to pi : Nat → Nat) (fe : Nat → Int32) (pl go : Nat) (hi mi re lo : Int32) (g0 g1 g2 g3 g4 g5 g6 : Nat → Int32)  : MU l yX1_listOf cX1_listOf 2 (some (.object "PinnedPantry$Row")) 0 0 D [.ref (a 0), .int (nI 0)] [((a 0), .inr (1, [.ref (a 1), .ref (a 3), .ref (a 5), .ref (a 7), .ref (a 9), .ref (a 11), .ref (a 13), .int (nI pl), .int (nI go), .int hi, .int mi, .int re, .int lo])), ((a 1), .inr (0, [.ref (a 2), .int (nI N.length)])), ((a 2), .inl (D.1 5, 40, .inl g0)), ((a 3), .inr (0, [.ref (a 4), .int (nI T.length)])), ((a 4), .inl (D.1 5, 40, .inl g1)), ((a 5), .inr (0, [.ref (a 6), .int (nI A.length)])), ((a 6), .inl (D.1 5, 40, .inl g2)), ((a 7), .inr (0, [.ref (a 8), .int (nI B.length)])), ((a 8), .inl (D.1 5, 40, .inl g3)), ((a 9), .inr (2, [.ref (a 10)])), ((a 10), .inl (D.1 5, 40, .inl g4)), ((a 11), .inr (2, [.ref (a 12)])), ((a 12), .inl (D.1 5, 40, .inl g5)), ((a 13), .inr (2, [.ref (a 14)])), ((a 14), .inl (D.1 5, 40, .inl g6))] (fun v (_ : Unit) => v = some (.ref (a 5))) (fun _ => [((a 0), .inr (1, [.ref (a 1), .ref (a 3), .ref (a 5), .ref (a 7), .ref (a 9), .ref (a 11), .ref (a 13), .int (nI pl), .int (nI go), .int hi, .int mi, .int re, .int lo])), ((a 1), .inr (0, [.ref (a 2), .int (nI N.length)])), ((a 2), .inl (D.1 5, 40, .inl g0)), ((a 3), .inr (0, [.ref (a 4), .int (nI T.length)])), ((a 4), .inl (D.1 5, 40, .inl g1)), ((a 5), .inr (0, [.ref (a 6), .int (nI A.length)])), ((a 6), .inl (D.1 5, 40, .inl g2)), ((a 7), .inr (0, [.ref (a 8), .int (nI B.length)])), ((a 8), .inl (D.1 5, 40, .inl g3)), ((a 9), .inr (2, [.ref (a 10)])), ((a 10), .inl (D.1 5, 40, .inl g4)), ((a 11), .inr (2, [.ref (a 12)])), ((a 12), .inl (D.1 5, 40, .inl g5)), ((a 13), .inr (2, [.ref (a 14)])), ((a 14), .inl (D.1 5, 40, .inl g6))]) 0 0 := by
  refine MU.enter (by decide) [(0, .ref (a 0)), (1, .int (nI 0))] rfl (Nat.le_of_ble_eq_true rfl) (fun G hC hE => ?_)
  have hC : CX G D cX1_listOf RX1 2 := hC
  refine k_iload_n hC 0 dX1_listOf_0 rfl ?_
  refine n_if_ne hC 1 11 dX1_listOf_1 (by decide) (by omega) (fun h1 => ?_) (fun h1 => ?_)
  · skip
    exact absurd h1 (by decide)
  · skip
    refine k_aload_n hC 4 dX1_listOf_4 rfl ?_
    refine k_getf hC 5 0 2 dX1_listOf_5 rfl rfl inlX1 (by decide) wq_2_3 rfl ?_
    refine k_goto hC 8 15 dX1_listOf_8 (by decide) ?_
    exact k_aret hC hE 15 () dX1_listOf_15 (Or.inl ⟨_, rfl⟩) rfl rfl ⟨Nat.zero_le _, Nat.zero_le _⟩
set_option maxHeartbeats 4000000 in
set_option maxRecDepth 100000 in
/-- listOf, whatever the rows are -/
theorem c_X1_listOf1q (l : Launch) (D : va_G) (a : Nat → Nat) (N T A B : List Nat) (to pi : Nat → Nat) (fe : Nat → Int32) (pl go : Nat) (hi mi re lo : Int32) (g0 g1 g2 g3 g4 g5 g6 : Nat → Int32)  : MU l yX1_listOf cX1_listOf 2 (some (.object "PinnedPantry$Row")) 0 0 D [.ref (a 0), .int (nI 1)] [((a 0), .inr (1, [.ref (a 1), .ref (a 3), .ref (a 5), .ref (a 7), .ref (a 9), .ref (a 11), .ref (a 13), .int (nI pl), .int (nI go), .int hi, .int mi, .int re, .int lo])), ((a 1), .inr (0, [.ref (a 2), .int (nI N.length)])), ((a 2), .inl (D.1 5, 40, .inl g0)), ((a 3), .inr (0, [.ref (a 4), .int (nI T.length)])), ((a 4), .inl (D.1 5, 40, .inl g1)), ((a 5), .inr (0, [.ref (a 6), .int (nI A.length)])), ((a 6), .inl (D.1 5, 40, .inl g2)), ((a 7), .inr (0, [.ref (a 8), .int (nI B.length)])), ((a 8), .inl (D.1 5, 40, .inl g3)), ((a 9), .inr (2, [.ref (a 10)])), ((a 10), .inl (D.1 5, 40, .inl g4)), ((a 11), .inr (2, [.ref (a 12)])), ((a 12), .inl (D.1 5, 40, .inl g5)), ((a 13), .inr (2, [.ref (a 14)])), ((a 14), .inl (D.1 5, 40, .inl g6))] (fun v (_ : Unit) => v = some (.ref (a 7))) (fun _ => [((a 0), .inr (1, [.ref (a 1), .ref (a 3), .ref (a 5), .ref (a 7), .ref (a 9), .ref (a 11), .ref (a 13), .int (nI pl), .int (nI go), .int hi, .int mi, .int re, .int lo])), ((a 1), .inr (0, [.ref (a 2), .int (nI N.length)])), ((a 2), .inl (D.1 5, 40, .inl g0)), ((a 3), .inr (0, [.ref (a 4), .int (nI T.length)])), ((a 4), .inl (D.1 5, 40, .inl g1)), ((a 5), .inr (0, [.ref (a 6), .int (nI A.length)])), ((a 6), .inl (D.1 5, 40, .inl g2)), ((a 7), .inr (0, [.ref (a 8), .int (nI B.length)])), ((a 8), .inl (D.1 5, 40, .inl g3)), ((a 9), .inr (2, [.ref (a 10)])), ((a 10), .inl (D.1 5, 40, .inl g4)), ((a 11), .inr (2, [.ref (a 12)])), ((a 12), .inl (D.1 5, 40, .inl g5)), ((a 13), .inr (2, [.ref (a 14)])), ((a 14), .inl (D.1 5, 40, .inl g6))]) 0 0 := by
  refine MU.enter (by decide) [(0, .ref (a 0)), (1, .int (nI 1))] rfl (Nat.le_of_ble_eq_true rfl) (fun G hC hE => ?_)
  have hC : CX G D cX1_listOf RX1 2 := hC
  refine k_iload_n hC 0 dX1_listOf_0 rfl ?_
  refine n_if_ne hC 1 11 dX1_listOf_1 (by decide) (by omega) (fun h1 => ?_) (fun h1 => ?_)
  · skip
    refine k_aload_n hC 11 dX1_listOf_11 rfl ?_
    refine k_getf hC 12 0 3 dX1_listOf_12 rfl rfl inlX1 (by decide) wq_2_4 rfl ?_
    exact k_aret hC hE 15 () dX1_listOf_15 (Or.inl ⟨_, rfl⟩) rfl rfl ⟨Nat.zero_le _, Nat.zero_le _⟩
  · skip
    exact absurd h1 (by decide)
set_option maxHeartbeats 4000000 in
set_option maxRecDepth 100000 in
/-- hasJar -/
theorem c_X1_hasJar (l : Launch) (D : va_G) (a : Nat → Nat) (N T A B : List Nat) (to pi : Nat → Nat) (fe : Nat → Int32) (pl go : Nat) (hi mi re lo : Int32) (g0 g1 g2 g3 g4 g5 g6 : Nat → Int32) (k : Nat) (hS : SR (N, T, A, B, to, pi, fe, pl, go, hi, mi, re, lo) (g0, g1, g2, g3, g4, g5, g6)) (hW : WF (N, T, A, B, to, pi, fe, pl, go, hi, mi, re, lo)) (hk : k < 40) : MU l yX1_hasJar cX1_hasJar 2 (some .boolean) 2 43 D [.ref (a 0), .int (nI k)] [((a 0), .inr (1, [.ref (a 1), .ref (a 3), .ref (a 5), .ref (a 7), .ref (a 9), .ref (a 11), .ref (a 13), .int (nI pl), .int (nI go), .int hi, .int mi, .int re, .int lo])), ((a 1), .inr (0, [.ref (a 2), .int (nI N.length)])), ((a 2), .inl (D.1 5, 40, .inl g0)), ((a 3), .inr (0, [.ref (a 4), .int (nI T.length)])), ((a 4), .inl (D.1 5, 40, .inl g1)), ((a 5), .inr (0, [.ref (a 6), .int (nI A.length)])), ((a 6), .inl (D.1 5, 40, .inl g2)), ((a 7), .inr (0, [.ref (a 8), .int (nI B.length)])), ((a 8), .inl (D.1 5, 40, .inl g3)), ((a 9), .inr (2, [.ref (a 10)])), ((a 10), .inl (D.1 5, 40, .inl g4)), ((a 11), .inr (2, [.ref (a 12)])), ((a 12), .inl (D.1 5, 40, .inl g5)), ((a 13), .inr (2, [.ref (a 14)])), ((a 14), .inl (D.1 5, 40, .inl g6))] (fun v (_ : Unit) => v = some (.int (nI (yn (k ∈ N ∨ k ∈ T))))) (fun _ => [((a 0), .inr (1, [.ref (a 1), .ref (a 3), .ref (a 5), .ref (a 7), .ref (a 9), .ref (a 11), .ref (a 13), .int (nI pl), .int (nI go), .int hi, .int mi, .int re, .int lo])), ((a 1), .inr (0, [.ref (a 2), .int (nI N.length)])), ((a 2), .inl (D.1 5, 40, .inl g0)), ((a 3), .inr (0, [.ref (a 4), .int (nI T.length)])), ((a 4), .inl (D.1 5, 40, .inl g1)), ((a 5), .inr (0, [.ref (a 6), .int (nI A.length)])), ((a 6), .inl (D.1 5, 40, .inl g2)), ((a 7), .inr (0, [.ref (a 8), .int (nI B.length)])), ((a 8), .inl (D.1 5, 40, .inl g3)), ((a 9), .inr (2, [.ref (a 10)])), ((a 10), .inl (D.1 5, 40, .inl g4)), ((a 11), .inr (2, [.ref (a 12)])), ((a 12), .inl (D.1 5, 40, .inl g5)), ((a 13), .inr (2, [.ref (a 14)])), ((a 14), .inl (D.1 5, 40, .inl g6))]) 0 0 := by
  refine MU.enter (by decide) [(0, .ref (a 0)), (1, .int (nI k))] rfl (Nat.le_of_ble_eq_true rfl) (fun G hC hE => ?_)
  have hC : CX G D cX1_hasJar RX1 2 := hC
  have hS0 := hS
  have hW0 := hW
  obtain ⟨r0, r1, r2, r3, r4, r5, r6⟩ := hS
  obtain ⟨kN, kT, kA, kB, nd, len, lA, lB, p2, p12, g12, t1, p9⟩ := hW
  refine k_aload_n hC 0 dX1_hasJar_0 rfl ?_
  refine k_getf hC 1 0 0 dX1_hasJar_1 rfl rfl inlX1 (by decide) wq_2_1 rfl ?_
  refine k_iload_n hC 4 dX1_hasJar_4 rfl ?_
  refine k_callVr hC 5 1 [1, 2] (c_X0_has l D (a 1) (a 2) N g0 k r0 (by omega) kN hk) cw_RX1_66 dX1_hasJar_5 ⟨Nat.le_of_ble_eq_true rfl, Nat.le_of_ble_eq_true rfl, Nat.le_of_ble_eq_true rfl, Nat.le_of_ble_eq_true rfl⟩ rfl (Nat.le_of_ble_eq_true rfl) rfl rfl rfl (by decide) rfl (fun _ => Nat.le_of_ble_eq_true rfl) (fun _ => rfl) _ rfl (fun v u hp => ?_)
  obtain rfl := hp
  refine KJ.eqs (st' := .int (nI (yn (k ∈ N))) :: []) rfl ?_
  refine n_if_ne hC 8 22 dX1_hasJar_8 (by decide) (Nat.lt_of_le_of_lt yn_le (by decide)) (fun h8 => ?_) (fun h8 => ?_)
  · skip
    refine k_iconst hC 22 dX1_hasJar_22 (nI 1) (by decide) ?_
    refine k_goto hC 23 27 dX1_hasJar_23 (by decide) ?_
    exact k_iret hC hE 27 () dX1_hasJar_27 rfl (by first | rw [yn_oa h8] | rw [yn_ob h19]) rfl ⟨Nat.zero_le _, Nat.zero_le _⟩
  · skip
    refine k_aload_n hC 11 dX1_hasJar_11 rfl ?_
    refine k_getf hC 12 0 1 dX1_hasJar_12 rfl rfl inlX1 (by decide) wq_2_2 rfl ?_
    refine k_iload_n hC 15 dX1_hasJar_15 rfl ?_
    refine k_callVr hC 16 3 [3, 4] (c_X0_has l D (a 3) (a 4) T g1 k r1 (by omega) kT hk) cw_RX1_66 dX1_hasJar_16 ⟨Nat.le_of_ble_eq_true rfl, Nat.le_of_ble_eq_true rfl, Nat.le_of_ble_eq_true rfl, Nat.le_of_ble_eq_true rfl⟩ rfl (Nat.le_of_ble_eq_true rfl) rfl rfl rfl (by decide) rfl (fun _ => Nat.le_of_ble_eq_true rfl) (fun _ => rfl) _ rfl (fun v u hp => ?_)
    obtain rfl := hp
    refine KJ.eqs (st' := .int (nI (yn (k ∈ T))) :: []) rfl ?_
    refine n_if_eq hC 19 26 dX1_hasJar_19 (by decide) (Nat.lt_of_le_of_lt yn_le (by decide)) (fun h19 => ?_) (fun h19 => ?_)
    · skip
      refine k_iconst hC 26 dX1_hasJar_26 (nI 0) (by decide) ?_
      exact k_iret hC hE 27 () dX1_hasJar_27 rfl (by rw [yn_f (fun z => z.elim (yn_0.mp h8) (yn_0.mp h19))]) rfl ⟨Nat.zero_le _, Nat.zero_le _⟩
    · skip
      refine k_iconst hC 22 dX1_hasJar_22 (nI 1) (by decide) ?_
      refine k_goto hC 23 27 dX1_hasJar_23 (by decide) ?_
      exact k_iret hC hE 27 () dX1_hasJar_27 rfl (by first | rw [yn_oa h8] | rw [yn_ob h19]) rfl ⟨Nat.zero_le _, Nat.zero_le _⟩
set_option maxHeartbeats 4000000 in
set_option maxRecDepth 100000 in
/-- pinnedOn -/
theorem c_X1_pinnedOn (l : Launch) (D : va_G) (a : Nat → Nat) (pl go : Nat) (hi mi re lo : Int32) (r q : Nat) (L : List Nat) (f : Nat → Int32) (pi : Nat → Nat) (g5 : Nat → Int32) (hR : RowL L f) (hL : L.length ≤ 40) (hK : KL L) (r5 : ∀ k : Nat, k < 40 → g5 k = nI (pi k)) (p9 : ∀ k : Nat, pi k ≤ 9) : MU l yX1_pinnedOn cX1_pinnedOn 4 (some .int) 1 21 D [.ref (a 0), .ref r] [((a 0), .inr (1, [.ref (a 1), .ref (a 3), .ref (a 5), .ref (a 7), .ref (a 9), .ref (a 11), .ref (a 13), .int (nI pl), .int (nI go), .int hi, .int mi, .int re, .int lo])), (r, .inr (0, [.ref q, .int (nI L.length)])), (q, .inl (D.1 5, 40, .inl f)), ((a 11), .inr (2, [.ref (a 12)])), ((a 12), .inl (D.1 5, 40, .inl g5))] (fun v (_ : Unit) => v = some (.int (nI (pc pi L)))) (fun _ => [((a 0), .inr (1, [.ref (a 1), .ref (a 3), .ref (a 5), .ref (a 7), .ref (a 9), .ref (a 11), .ref (a 13), .int (nI pl), .int (nI go), .int hi, .int mi, .int re, .int lo])), (r, .inr (0, [.ref q, .int (nI L.length)])), (q, .inl (D.1 5, 40, .inl f)), ((a 11), .inr (2, [.ref (a 12)])), ((a 12), .inl (D.1 5, 40, .inl g5))]) 0 0 := by
  refine MU.enter (by decide) [(0, .ref (a 0)), (1, .ref r)] rfl (Nat.le_of_ble_eq_true rfl) (fun G hC hE => ?_)
  have hC : CX G D cX1_pinnedOn RX1 4 := hC
  refine k_iconst hC 0 dX1_pinnedOn_0 (nI 0) (by decide) ?_
  refine k_istore_n hC 1 2 [(2, .int (nI 0)), (0, .ref (a 0)), (1, .ref r)] dX1_pinnedOn_1 rfl (by decide) rfl ?_
  refine k_iconst hC 2 dX1_pinnedOn_2 (nI 0) (by decide) ?_
  refine k_istore_n hC 3 3 [(3, .int (nI 0)), (2, .int (nI 0)), (0, .ref (a 0)), (1, .ref r)] dX1_pinnedOn_3 rfl (by decide) rfl ?_
  have loop4 : ∀ (n4 : Nat) (i : Nat), L.length - i < n4 → i ≤ L.length → KJ l G D ({ frames := 1, cells := 0, slots := 0, locals := 21 } : Room) 4 0 0 [((a 0), .inr (1, [.ref (a 1), .ref (a 3), .ref (a 5), .ref (a 7), .ref (a 9), .ref (a 11), .ref (a 13), .int (nI pl), .int (nI go), .int hi, .int mi, .int re, .int lo])), (r, .inr (0, [.ref q, .int (nI L.length)])), (q, .inl (D.1 5, 40, .inl f)), ((a 11), .inr (2, [.ref (a 12)])), ((a 12), .inl (D.1 5, 40, .inl g5))] [(3, .int (nI i)), (2, .int (nI (pc pi (L.take i)))), (0, .ref (a 0)), (1, .ref r)] 4 [] := by
    intro n4
    induction n4 with
    | zero => intro i h; exact absurd h (Nat.not_lt_zero _)
    | succ n4 ih4 =>
      intro i hn4 hi2
      have hg := hK.g i
      have hp := p9 (L.getD i 0)
      have htl := pc_tl pi L i
      refine k_iload_n hC 4 dX1_pinnedOn_4 rfl ?_
      refine k_aload_n hC 5 dX1_pinnedOn_5 rfl ?_
      refine k_getfN hC 6 1 1 dX1_pinnedOn_6 rfl rfl inlX0 (by decide) hC.kt.2.1 rfl ?_
      refine n_icmp_ge hC 9 36 dX1_pinnedOn_9 (by decide) (by omega) (by omega) (fun h9 => ?_) (fun h9 => ?_)
      · skip
        refine k_iload_n hC 36 dX1_pinnedOn_36 rfl ?_
        exact k_iret hC hE 37 () dX1_pinnedOn_37 rfl (by rw [List.take_of_length_le h9]) rfl ⟨Nat.zero_le _, Nat.zero_le _⟩
      · skip
        refine k_aload_n hC 12 dX1_pinnedOn_12 rfl ?_
        refine k_getf hC 13 0 5 dX1_pinnedOn_13 rfl rfl inlX1 (by decide) wq_2_9 rfl ?_
        refine k_aload_n hC 16 dX1_pinnedOn_16 rfl ?_
        refine k_iload_n hC 17 dX1_pinnedOn_17 rfl ?_
        refine k_callVr hC 18 1 [1, 2] (c_X0_at_in l D r q L f i hR hL hK h9) cw_RX1_77 dX1_pinnedOn_18 ⟨Nat.le_of_ble_eq_true rfl, Nat.le_of_ble_eq_true rfl, Nat.le_of_ble_eq_true rfl, Nat.le_of_ble_eq_true rfl⟩ rfl (Nat.le_of_ble_eq_true rfl) rfl rfl rfl (by decide) rfl (fun _ => Nat.le_of_ble_eq_true rfl) (fun _ => rfl) _ rfl (fun v u hp => ?_)
        obtain rfl := hp
        refine KJ.eqs (st' := .int (nI (L.getD i 0)) :: .ref (a 11) :: []) rfl ?_
        refine k_callVr hC 21 3 [3, 4] (c_X2_of l D (a 11) (a 12) g5 (L.getD i 0) hg) cw_RX1_81 dX1_pinnedOn_21 ⟨Nat.le_of_ble_eq_true rfl, Nat.le_of_ble_eq_true rfl, Nat.le_of_ble_eq_true rfl, Nat.le_of_ble_eq_true rfl⟩ rfl (Nat.le_of_ble_eq_true rfl) rfl rfl rfl (by decide) rfl (fun _ => Nat.le_of_ble_eq_true rfl) (fun _ => rfl) _ rfl (fun v u hp => ?_)
        obtain rfl := hp
        refine KJ.eqs (st' := .int (g5 (L.getD i 0)) :: []) rfl ?_
        refine KJ.topi (y := (nI (pi (L.getD i 0)))) (r5 _ hg) ?_
        refine n_if_le hC 24 30 dX1_pinnedOn_24 (by decide) (by omega) (fun h24 => ?_) (fun h24 => ?_)
        · skip
          refine k_iinc hC 30 0 (nI (i + 1)) [(3, .int (nI (i + 1))), (2, .int (nI (pc pi (L.take i)))), (0, .ref (a 0)), (1, .ref r)] dX1_pinnedOn_30 rfl (nI_1 _) (by decide) rfl ?_
          refine k_goto hC 33 4 dX1_pinnedOn_33 (by decide) ?_
          rw [← pc_sf h9 (by omega)]
          exact ih4 (i + 1) (by omega) (by omega)
        · skip
          refine k_iinc hC 27 1 (nI (pc pi (L.take i) + 1)) [(2, .int (nI (pc pi (L.take i) + 1))), (3, .int (nI i)), (0, .ref (a 0)), (1, .ref r)] dX1_pinnedOn_27 rfl (nI_1 _) (by decide) rfl ?_
          refine k_iinc hC 30 1 (nI (i + 1)) [(3, .int (nI (i + 1))), (2, .int (nI (pc pi (L.take i) + 1))), (0, .ref (a 0)), (1, .ref r)] dX1_pinnedOn_30 rfl (nI_1 _) (by decide) rfl ?_
          refine k_goto hC 33 4 dX1_pinnedOn_33 (by decide) ?_
          rw [← pc_st h9 h24]
          exact ih4 (i + 1) (by omega) (by omega)
  exact loop4 (L.length + 1) 0 (by omega) (by omega)
set_option maxHeartbeats 4000000 in
set_option maxRecDepth 100000 in
/-- pinnedJars -/
theorem c_X1_pinnedJars (l : Launch) (D : va_G) (a : Nat → Nat) (N T A B : List Nat) (to pi : Nat → Nat) (fe : Nat → Int32) (pl go : Nat) (hi mi re lo : Int32) (g0 g1 g2 g3 g4 g5 g6 : Nat → Int32) (hS : SR (N, T, A, B, to, pi, fe, pl, go, hi, mi, re, lo) (g0, g1, g2, g3, g4, g5, g6)) (hW : WF (N, T, A, B, to, pi, fe, pl, go, hi, mi, re, lo)) : MU l yX1_pinnedJars cX1_pinnedJars 1 (some .int) 2 44 D [.ref (a 0)] [((a 0), .inr (1, [.ref (a 1), .ref (a 3), .ref (a 5), .ref (a 7), .ref (a 9), .ref (a 11), .ref (a 13), .int (nI pl), .int (nI go), .int hi, .int mi, .int re, .int lo])), ((a 1), .inr (0, [.ref (a 2), .int (nI N.length)])), ((a 2), .inl (D.1 5, 40, .inl g0)), ((a 3), .inr (0, [.ref (a 4), .int (nI T.length)])), ((a 4), .inl (D.1 5, 40, .inl g1)), ((a 5), .inr (0, [.ref (a 6), .int (nI A.length)])), ((a 6), .inl (D.1 5, 40, .inl g2)), ((a 7), .inr (0, [.ref (a 8), .int (nI B.length)])), ((a 8), .inl (D.1 5, 40, .inl g3)), ((a 9), .inr (2, [.ref (a 10)])), ((a 10), .inl (D.1 5, 40, .inl g4)), ((a 11), .inr (2, [.ref (a 12)])), ((a 12), .inl (D.1 5, 40, .inl g5)), ((a 13), .inr (2, [.ref (a 14)])), ((a 14), .inl (D.1 5, 40, .inl g6))] (fun v (_ : Unit) => v = some (.int (nI (pc pi N + pc pi T)))) (fun _ => [((a 0), .inr (1, [.ref (a 1), .ref (a 3), .ref (a 5), .ref (a 7), .ref (a 9), .ref (a 11), .ref (a 13), .int (nI pl), .int (nI go), .int hi, .int mi, .int re, .int lo])), ((a 1), .inr (0, [.ref (a 2), .int (nI N.length)])), ((a 2), .inl (D.1 5, 40, .inl g0)), ((a 3), .inr (0, [.ref (a 4), .int (nI T.length)])), ((a 4), .inl (D.1 5, 40, .inl g1)), ((a 5), .inr (0, [.ref (a 6), .int (nI A.length)])), ((a 6), .inl (D.1 5, 40, .inl g2)), ((a 7), .inr (0, [.ref (a 8), .int (nI B.length)])), ((a 8), .inl (D.1 5, 40, .inl g3)), ((a 9), .inr (2, [.ref (a 10)])), ((a 10), .inl (D.1 5, 40, .inl g4)), ((a 11), .inr (2, [.ref (a 12)])), ((a 12), .inl (D.1 5, 40, .inl g5)), ((a 13), .inr (2, [.ref (a 14)])), ((a 14), .inl (D.1 5, 40, .inl g6))]) 0 0 := by
  refine MU.enter (by decide) [(0, .ref (a 0))] rfl (Nat.le_of_ble_eq_true rfl) (fun G hC hE => ?_)
  have hC : CX G D cX1_pinnedJars RX1 1 := hC
  have hS0 := hS
  have hW0 := hW
  obtain ⟨r0, r1, r2, r3, r4, r5, r6⟩ := hS
  obtain ⟨kN, kT, kA, kB, nd, len, lA, lB, p2, p12, g12, t1, p9⟩ := hW
  refine k_aload_n hC 0 dX1_pinnedJars_0 rfl ?_
  refine k_aload_n hC 1 dX1_pinnedJars_1 rfl ?_
  refine k_getf hC 2 0 0 dX1_pinnedJars_2 rfl rfl inlX1 (by decide) wq_2_1 rfl ?_
  refine k_callVr hC 5 0 [0, 1, 2, 11, 12] (c_X1_pinnedOn l D a pl go hi mi re lo (a 1) (a 2) N g0 pi g5 r0 (by omega) kN r5 p9) cw_RX1_73 dX1_pinnedJars_5 ⟨Nat.le_of_ble_eq_true rfl, Nat.le_of_ble_eq_true rfl, Nat.le_of_ble_eq_true rfl, Nat.le_of_ble_eq_true rfl⟩ rfl (Nat.le_of_ble_eq_true rfl) rfl rfl rfl (by decide) rfl (fun _ => Nat.le_of_ble_eq_true rfl) (fun _ => rfl) _ rfl (fun v u hp => ?_)
  obtain rfl := hp
  refine KJ.eqs (st' := .int (nI (pc pi N)) :: []) rfl ?_
  refine k_aload_n hC 8 dX1_pinnedJars_8 rfl ?_
  refine k_aload_n hC 9 dX1_pinnedJars_9 rfl ?_
  refine k_getf hC 10 0 1 dX1_pinnedJars_10 rfl rfl inlX1 (by decide) wq_2_2 rfl ?_
  refine k_callVr hC 13 0 [0, 3, 4, 11, 12] (c_X1_pinnedOn l D a pl go hi mi re lo (a 3) (a 4) T g1 pi g5 r1 (by omega) kT r5 p9) cw_RX1_73 dX1_pinnedJars_13 ⟨Nat.le_of_ble_eq_true rfl, Nat.le_of_ble_eq_true rfl, Nat.le_of_ble_eq_true rfl, Nat.le_of_ble_eq_true rfl⟩ rfl (Nat.le_of_ble_eq_true rfl) rfl rfl rfl (by decide) rfl (fun _ => Nat.le_of_ble_eq_true rfl) (fun _ => rfl) _ rfl (fun v u hp => ?_)
  obtain rfl := hp
  refine KJ.eqs (st' := .int (nI (pc pi T)) :: .int (nI (pc pi N)) :: []) rfl ?_
  refine n_iadd hC 16 ((pc pi N) + (pc pi T)) dX1_pinnedJars_16 rfl ?_
  exact k_iret hC hE 17 () dX1_pinnedJars_17 rfl rfl rfl ⟨Nat.zero_le _, Nat.zero_le _⟩
set_option maxHeartbeats 4000000 in
set_option maxRecDepth 100000 in
/-- forecast -/
theorem c_X1_forecast (l : Launch) (D : va_G) (a : Nat → Nat) (N T A B : List Nat) (to pi : Nat → Nat) (fe : Nat → Int32) (pl go : Nat) (hi mi re lo : Int32) (g0 g1 g2 g3 g4 g5 g6 : Nat → Int32) (k : Nat) (hS : SR (N, T, A, B, to, pi, fe, pl, go, hi, mi, re, lo) (g0, g1, g2, g3, g4, g5, g6)) (hW : WF (N, T, A, B, to, pi, fe, pl, go, hi, mi, re, lo)) (hk : k < 40) : MU l yX1_forecast cX1_forecast 2 (some .int) 3 64 D [.ref (a 0), .int (nI k)] [((a 0), .inr (1, [.ref (a 1), .ref (a 3), .ref (a 5), .ref (a 7), .ref (a 9), .ref (a 11), .ref (a 13), .int (nI pl), .int (nI go), .int hi, .int mi, .int re, .int lo])), ((a 1), .inr (0, [.ref (a 2), .int (nI N.length)])), ((a 2), .inl (D.1 5, 40, .inl g0)), ((a 3), .inr (0, [.ref (a 4), .int (nI T.length)])), ((a 4), .inl (D.1 5, 40, .inl g1)), ((a 5), .inr (0, [.ref (a 6), .int (nI A.length)])), ((a 6), .inl (D.1 5, 40, .inl g2)), ((a 7), .inr (0, [.ref (a 8), .int (nI B.length)])), ((a 8), .inl (D.1 5, 40, .inl g3)), ((a 9), .inr (2, [.ref (a 10)])), ((a 10), .inl (D.1 5, 40, .inl g4)), ((a 11), .inr (2, [.ref (a 12)])), ((a 12), .inl (D.1 5, 40, .inl g5)), ((a 13), .inr (2, [.ref (a 14)])), ((a 14), .inl (D.1 5, 40, .inl g6))] (fun v (_ : Unit) => v = some (.int (ocI (oc (N, T, A, B, to, pi, fe, pl, go, hi, mi, re, lo) k)))) (fun _ => [((a 0), .inr (1, [.ref (a 1), .ref (a 3), .ref (a 5), .ref (a 7), .ref (a 9), .ref (a 11), .ref (a 13), .int (nI pl), .int (nI go), .int hi, .int mi, .int re, .int lo])), ((a 1), .inr (0, [.ref (a 2), .int (nI N.length)])), ((a 2), .inl (D.1 5, 40, .inl g0)), ((a 3), .inr (0, [.ref (a 4), .int (nI T.length)])), ((a 4), .inl (D.1 5, 40, .inl g1)), ((a 5), .inr (0, [.ref (a 6), .int (nI A.length)])), ((a 6), .inl (D.1 5, 40, .inl g2)), ((a 7), .inr (0, [.ref (a 8), .int (nI B.length)])), ((a 8), .inl (D.1 5, 40, .inl g3)), ((a 9), .inr (2, [.ref (a 10)])), ((a 10), .inl (D.1 5, 40, .inl g4)), ((a 11), .inr (2, [.ref (a 12)])), ((a 12), .inl (D.1 5, 40, .inl g5)), ((a 13), .inr (2, [.ref (a 14)])), ((a 14), .inl (D.1 5, 40, .inl g6))]) 0 0 := by
  refine MU.enter (by decide) [(0, .ref (a 0)), (1, .int (nI k))] rfl (Nat.le_of_ble_eq_true rfl) (fun G hC hE => ?_)
  have hC : CX G D cX1_forecast RX1 2 := hC
  have hS0 := hS
  have hW0 := hW
  obtain ⟨r0, r1, r2, r3, r4, r5, r6⟩ := hS
  obtain ⟨kN, kT, kA, kB, nd, len, lA, lB, p2, p12, g12, t1, p9⟩ := hW
  have q0 := pc_le pi N
  have q1 := pc_le pi T
  refine k_aload_n hC 0 dX1_forecast_0 rfl ?_
  refine k_iload_n hC 1 dX1_forecast_1 rfl ?_
  refine k_callVr hC 2 0 [0, 1, 2, 3, 4, 5, 6, 7, 8, 9, 10, 11, 12, 13, 14] (c_X1_hasJar l D a N T A B to pi fe pl go hi mi re lo g0 g1 g2 g3 g4 g5 g6 k hS0 hW0 hk) cw_RX1_84 dX1_forecast_2 ⟨Nat.le_of_ble_eq_true rfl, Nat.le_of_ble_eq_true rfl, Nat.le_of_ble_eq_true rfl, Nat.le_of_ble_eq_true rfl⟩ rfl (Nat.le_of_ble_eq_true rfl) rfl rfl rfl (by decide) rfl (fun _ => Nat.le_of_ble_eq_true rfl) (fun _ => rfl) _ rfl (fun v u hp => ?_)
  obtain rfl := hp
  refine KJ.eqs (st' := .int (nI (yn (k ∈ N ∨ k ∈ T))) :: []) rfl ?_
  refine n_if_eq hC 5 10 dX1_forecast_5 (by decide) (Nat.lt_of_le_of_lt yn_le (by decide)) (fun h5 => ?_) (fun h5 => ?_)
  · skip
    refine k_aload_n hC 10 dX1_forecast_10 rfl ?_
    refine k_callVr hC 11 0 [0, 1, 2, 3, 4, 5, 6, 7, 8, 9, 10, 11, 12, 13, 14] (c_X1_jars l D a N T A B to pi fe pl go hi mi re lo g0 g1 g2 g3 g4 g5 g6 hS0 hW0) cw_RX1_87 dX1_forecast_11 ⟨Nat.le_of_ble_eq_true rfl, Nat.le_of_ble_eq_true rfl, Nat.le_of_ble_eq_true rfl, Nat.le_of_ble_eq_true rfl⟩ rfl (Nat.le_of_ble_eq_true rfl) rfl rfl rfl (by decide) rfl (fun _ => Nat.le_of_ble_eq_true rfl) (fun _ => rfl) _ rfl (fun v u hp => ?_)
    obtain rfl := hp
    refine KJ.eqs (st' := .int (nI (N.length + T.length)) :: []) rfl ?_
    refine k_aload_n hC 14 dX1_forecast_14 rfl ?_
    refine k_getf hC 15 0 7 dX1_forecast_15 rfl rfl inlX1 (by decide) wq_2_11 rfl ?_
    refine n_icmp_lt hC 18 35 dX1_forecast_18 (by decide) (by omega) (by omega) (fun h18 => ?_) (fun h18 => ?_)
    · skip
      refine k_aload_n hC 35 dX1_forecast_35 rfl ?_
      refine k_getf hC 36 0 2 dX1_forecast_36 rfl rfl inlX1 (by decide) wq_2_3 rfl ?_
      refine k_iload_n hC 39 dX1_forecast_39 rfl ?_
      refine k_callVr hC 40 5 [5, 6] (c_X0_has l D (a 5) (a 6) A g2 k r2 (by omega) kA hk) cw_RX1_66 dX1_forecast_40 ⟨Nat.le_of_ble_eq_true rfl, Nat.le_of_ble_eq_true rfl, Nat.le_of_ble_eq_true rfl, Nat.le_of_ble_eq_true rfl⟩ rfl (Nat.le_of_ble_eq_true rfl) rfl rfl rfl (by decide) rfl (fun _ => Nat.le_of_ble_eq_true rfl) (fun _ => rfl) _ rfl (fun v u hp => ?_)
      obtain rfl := hp
      refine KJ.eqs (st' := .int (nI (yn (k ∈ A))) :: []) rfl ?_
      refine n_if_eq hC 43 48 dX1_forecast_43 (by decide) (Nat.lt_of_le_of_lt yn_le (by decide)) (fun h43 => ?_) (fun h43 => ?_)
      · skip
        refine k_aload_n hC 48 dX1_forecast_48 rfl ?_
        refine k_getf hC 49 0 3 dX1_forecast_49 rfl rfl inlX1 (by decide) wq_2_4 rfl ?_
        refine k_iload_n hC 52 dX1_forecast_52 rfl ?_
        refine k_callVr hC 53 7 [7, 8] (c_X0_has l D (a 7) (a 8) B g3 k r3 (by omega) kB hk) cw_RX1_66 dX1_forecast_53 ⟨Nat.le_of_ble_eq_true rfl, Nat.le_of_ble_eq_true rfl, Nat.le_of_ble_eq_true rfl, Nat.le_of_ble_eq_true rfl⟩ rfl (Nat.le_of_ble_eq_true rfl) rfl rfl rfl (by decide) rfl (fun _ => Nat.le_of_ble_eq_true rfl) (fun _ => rfl) _ rfl (fun v u hp => ?_)
        obtain rfl := hp
        refine KJ.eqs (st' := .int (nI (yn (k ∈ B))) :: []) rfl ?_
        refine n_if_eq hC 56 63 dX1_forecast_56 (by decide) (Nat.lt_of_le_of_lt yn_le (by decide)) (fun h56 => ?_) (fun h56 => ?_)
        · skip
          refine k_iconst hC 63 dX1_forecast_63 (nI 1) (by decide) ?_
          exact k_iret hC hE 64 () dX1_forecast_64 rfl (by show _ = some (Value.int (ocI (if _ then _ else _))); rw [if_neg (yn_0.mp h5), if_neg (by omega), if_neg (yn_0.mp h43), if_neg (yn_0.mp h56)]; rfl) rfl ⟨Nat.zero_le _, Nat.zero_le _⟩
        · skip
          refine k_iconst hC 59 dX1_forecast_59 (nI 3) (by decide) ?_
          refine k_goto hC 60 64 dX1_forecast_60 (by decide) ?_
          exact k_iret hC hE 64 () dX1_forecast_64 rfl (by show _ = some (Value.int (ocI (if _ then _ else _))); rw [if_neg (yn_0.mp h5), if_neg (by omega), if_neg (yn_0.mp h43), if_pos (Classical.byContradiction (fun z => h56 (yn_f z)))]; rfl) rfl ⟨Nat.zero_le _, Nat.zero_le _⟩
      · skip
        refine k_iconst hC 46 dX1_forecast_46 (nI 2) (by decide) ?_
        exact k_iret hC hE 47 () dX1_forecast_47 rfl (by show _ = some (Value.int (ocI (if _ then _ else _))); rw [if_neg (yn_0.mp h5), if_neg (by omega), if_pos (Classical.byContradiction (fun z => h43 (yn_f z)))]; rfl) rfl ⟨Nat.zero_le _, Nat.zero_le _⟩
    · skip
      refine k_aload_n hC 21 dX1_forecast_21 rfl ?_
      refine k_callVr hC 22 0 [0, 1, 2, 3, 4, 5, 6, 7, 8, 9, 10, 11, 12, 13, 14] (c_X1_pinnedJars l D a N T A B to pi fe pl go hi mi re lo g0 g1 g2 g3 g4 g5 g6 hS0 hW0) cw_RX1_91 dX1_forecast_22 ⟨Nat.le_of_ble_eq_true rfl, Nat.le_of_ble_eq_true rfl, Nat.le_of_ble_eq_true rfl, Nat.le_of_ble_eq_true rfl⟩ rfl (Nat.le_of_ble_eq_true rfl) rfl rfl rfl (by decide) rfl (fun _ => Nat.le_of_ble_eq_true rfl) (fun _ => rfl) _ rfl (fun v u hp => ?_)
      obtain rfl := hp
      refine KJ.eqs (st' := .int (nI (pc pi N + pc pi T)) :: []) rfl ?_
      refine k_aload_n hC 25 dX1_forecast_25 rfl ?_
      refine k_callVr hC 26 0 [0, 1, 2, 3, 4, 5, 6, 7, 8, 9, 10, 11, 12, 13, 14] (c_X1_jars l D a N T A B to pi fe pl go hi mi re lo g0 g1 g2 g3 g4 g5 g6 hS0 hW0) cw_RX1_87 dX1_forecast_26 ⟨Nat.le_of_ble_eq_true rfl, Nat.le_of_ble_eq_true rfl, Nat.le_of_ble_eq_true rfl, Nat.le_of_ble_eq_true rfl⟩ rfl (Nat.le_of_ble_eq_true rfl) rfl rfl rfl (by decide) rfl (fun _ => Nat.le_of_ble_eq_true rfl) (fun _ => rfl) _ rfl (fun v u hp => ?_)
      obtain rfl := hp
      refine KJ.eqs (st' := .int (nI (N.length + T.length)) :: .int (nI (pc pi N + pc pi T)) :: []) rfl ?_
      refine n_icmp_lt hC 29 35 dX1_forecast_29 (by decide) (by omega) (by omega) (fun h29 => ?_) (fun h29 => ?_)
      · skip
        refine k_aload_n hC 35 dX1_forecast_35 rfl ?_
        refine k_getf hC 36 0 2 dX1_forecast_36 rfl rfl inlX1 (by decide) wq_2_3 rfl ?_
        refine k_iload_n hC 39 dX1_forecast_39 rfl ?_
        refine k_callVr hC 40 5 [5, 6] (c_X0_has l D (a 5) (a 6) A g2 k r2 (by omega) kA hk) cw_RX1_66 dX1_forecast_40 ⟨Nat.le_of_ble_eq_true rfl, Nat.le_of_ble_eq_true rfl, Nat.le_of_ble_eq_true rfl, Nat.le_of_ble_eq_true rfl⟩ rfl (Nat.le_of_ble_eq_true rfl) rfl rfl rfl (by decide) rfl (fun _ => Nat.le_of_ble_eq_true rfl) (fun _ => rfl) _ rfl (fun v u hp => ?_)
        obtain rfl := hp
        refine KJ.eqs (st' := .int (nI (yn (k ∈ A))) :: []) rfl ?_
        refine n_if_eq hC 43 48 dX1_forecast_43 (by decide) (Nat.lt_of_le_of_lt yn_le (by decide)) (fun h43 => ?_) (fun h43 => ?_)
        · skip
          refine k_aload_n hC 48 dX1_forecast_48 rfl ?_
          refine k_getf hC 49 0 3 dX1_forecast_49 rfl rfl inlX1 (by decide) wq_2_4 rfl ?_
          refine k_iload_n hC 52 dX1_forecast_52 rfl ?_
          refine k_callVr hC 53 7 [7, 8] (c_X0_has l D (a 7) (a 8) B g3 k r3 (by omega) kB hk) cw_RX1_66 dX1_forecast_53 ⟨Nat.le_of_ble_eq_true rfl, Nat.le_of_ble_eq_true rfl, Nat.le_of_ble_eq_true rfl, Nat.le_of_ble_eq_true rfl⟩ rfl (Nat.le_of_ble_eq_true rfl) rfl rfl rfl (by decide) rfl (fun _ => Nat.le_of_ble_eq_true rfl) (fun _ => rfl) _ rfl (fun v u hp => ?_)
          obtain rfl := hp
          refine KJ.eqs (st' := .int (nI (yn (k ∈ B))) :: []) rfl ?_
          refine n_if_eq hC 56 63 dX1_forecast_56 (by decide) (Nat.lt_of_le_of_lt yn_le (by decide)) (fun h56 => ?_) (fun h56 => ?_)
          · skip
            refine k_iconst hC 63 dX1_forecast_63 (nI 1) (by decide) ?_
            exact k_iret hC hE 64 () dX1_forecast_64 rfl (by show _ = some (Value.int (ocI (if _ then _ else _))); rw [if_neg (yn_0.mp h5), if_neg (by omega), if_neg (yn_0.mp h43), if_neg (yn_0.mp h56)]; rfl) rfl ⟨Nat.zero_le _, Nat.zero_le _⟩
          · skip
            refine k_iconst hC 59 dX1_forecast_59 (nI 3) (by decide) ?_
            refine k_goto hC 60 64 dX1_forecast_60 (by decide) ?_
            exact k_iret hC hE 64 () dX1_forecast_64 rfl (by show _ = some (Value.int (ocI (if _ then _ else _))); rw [if_neg (yn_0.mp h5), if_neg (by omega), if_neg (yn_0.mp h43), if_pos (Classical.byContradiction (fun z => h56 (yn_f z)))]; rfl) rfl ⟨Nat.zero_le _, Nat.zero_le _⟩
        · skip
          refine k_iconst hC 46 dX1_forecast_46 (nI 2) (by decide) ?_
          exact k_iret hC hE 47 () dX1_forecast_47 rfl (by show _ = some (Value.int (ocI (if _ then _ else _))); rw [if_neg (yn_0.mp h5), if_neg (by omega), if_pos (Classical.byContradiction (fun z => h43 (yn_f z)))]; rfl) rfl ⟨Nat.zero_le _, Nat.zero_le _⟩
      · skip
        refine k_bipush hC 32 dX1_forecast_32 (-9) (by decide) ?_
        exact k_iret hC hE 34 () dX1_forecast_34 rfl (by show _ = some (Value.int (ocI (if _ then _ else _))); rw [if_neg (yn_0.mp h5), if_pos ⟨h18, h29⟩]; rfl) rfl ⟨Nat.zero_le _, Nat.zero_le _⟩
  · skip
    refine k_iconst hC 8 dX1_forecast_8 (nI 0) (by decide) ?_
    exact k_iret hC hE 9 () dX1_forecast_9 rfl (by show _ = some (Value.int (ocI (if _ then _ else _))); rw [if_pos (Classical.byContradiction (fun z => h5 (yn_f z)))]; rfl) rfl ⟨Nat.zero_le _, Nat.zero_le _⟩
set_option maxHeartbeats 4000000 in
set_option maxRecDepth 100000 in
/-- givingShelf -/
theorem c_X1_givingShelf (l : Launch) (D : va_G) (a : Nat → Nat) (N T A B : List Nat) (to pi : Nat → Nat) (fe : Nat → Int32) (pl go : Nat) (hi mi re lo : Int32) (g0 g1 g2 g3 g4 g5 g6 : Nat → Int32) (hS : SR (N, T, A, B, to, pi, fe, pl, go, hi, mi, re, lo) (g0, g1, g2, g3, g4, g5, g6)) (hW : WF (N, T, A, B, to, pi, fe, pl, go, hi, mi, re, lo)) : MU l yX1_givingShelf cX1_givingShelf 4 (some .int) 2 44 D [.ref (a 0)] [((a 0), .inr (1, [.ref (a 1), .ref (a 3), .ref (a 5), .ref (a 7), .ref (a 9), .ref (a 11), .ref (a 13), .int (nI pl), .int (nI go), .int hi, .int mi, .int re, .int lo])), ((a 1), .inr (0, [.ref (a 2), .int (nI N.length)])), ((a 2), .inl (D.1 5, 40, .inl g0)), ((a 3), .inr (0, [.ref (a 4), .int (nI T.length)])), ((a 4), .inl (D.1 5, 40, .inl g1)), ((a 5), .inr (0, [.ref (a 6), .int (nI A.length)])), ((a 6), .inl (D.1 5, 40, .inl g2)), ((a 7), .inr (0, [.ref (a 8), .int (nI B.length)])), ((a 8), .inl (D.1 5, 40, .inl g3)), ((a 9), .inr (2, [.ref (a 10)])), ((a 10), .inl (D.1 5, 40, .inl g4)), ((a 11), .inr (2, [.ref (a 12)])), ((a 12), .inl (D.1 5, 40, .inl g5)), ((a 13), .inr (2, [.ref (a 14)])), ((a 14), .inl (D.1 5, 40, .inl g6))] (fun v (_ : Unit) => v = some (.int (nI (gv N T pi go)))) (fun _ => [((a 0), .inr (1, [.ref (a 1), .ref (a 3), .ref (a 5), .ref (a 7), .ref (a 9), .ref (a 11), .ref (a 13), .int (nI pl), .int (nI go), .int hi, .int mi, .int re, .int lo])), ((a 1), .inr (0, [.ref (a 2), .int (nI N.length)])), ((a 2), .inl (D.1 5, 40, .inl g0)), ((a 3), .inr (0, [.ref (a 4), .int (nI T.length)])), ((a 4), .inl (D.1 5, 40, .inl g1)), ((a 5), .inr (0, [.ref (a 6), .int (nI A.length)])), ((a 6), .inl (D.1 5, 40, .inl g2)), ((a 7), .inr (0, [.ref (a 8), .int (nI B.length)])), ((a 8), .inl (D.1 5, 40, .inl g3)), ((a 9), .inr (2, [.ref (a 10)])), ((a 10), .inl (D.1 5, 40, .inl g4)), ((a 11), .inr (2, [.ref (a 12)])), ((a 12), .inl (D.1 5, 40, .inl g5)), ((a 13), .inr (2, [.ref (a 14)])), ((a 14), .inl (D.1 5, 40, .inl g6))]) 0 0 := by
  refine MU.enter (by decide) [(0, .ref (a 0))] rfl (Nat.le_of_ble_eq_true rfl) (fun G hC hE => ?_)
  have hC : CX G D cX1_givingShelf RX1 4 := hC
  have hS0 := hS
  have hW0 := hW
  obtain ⟨r0, r1, r2, r3, r4, r5, r6⟩ := hS
  obtain ⟨kN, kT, kA, kB, nd, len, lA, lB, p2, p12, g12, t1, p9⟩ := hW
  have q0 := pc_le pi N
  have q1 := pc_le pi T
  have hmx : max 1 go ≤ 13 := by omega
  refine k_aload_n hC 0 dX1_givingShelf_0 rfl ?_
  refine k_aload_n hC 1 dX1_givingShelf_1 rfl ?_
  refine k_getf hC 2 0 0 dX1_givingShelf_2 rfl rfl inlX1 (by decide) wq_2_1 rfl ?_
  refine k_callVr hC 5 0 [0, 1, 2, 11, 12] (c_X1_pinnedOn l D a pl go hi mi re lo (a 1) (a 2) N g0 pi g5 r0 (by omega) kN r5 p9) cw_RX1_73 dX1_givingShelf_5 ⟨Nat.le_of_ble_eq_true rfl, Nat.le_of_ble_eq_true rfl, Nat.le_of_ble_eq_true rfl, Nat.le_of_ble_eq_true rfl⟩ rfl (Nat.le_of_ble_eq_true rfl) rfl rfl rfl (by decide) rfl (fun _ => Nat.le_of_ble_eq_true rfl) (fun _ => rfl) _ rfl (fun v u hp => ?_)
  obtain rfl := hp
  refine KJ.eqs (st' := .int (nI (pc pi N)) :: []) rfl ?_
  refine k_aload_n hC 8 dX1_givingShelf_8 rfl ?_
  refine k_getf hC 9 0 0 dX1_givingShelf_9 rfl rfl inlX1 (by decide) wq_2_1 rfl ?_
  refine k_getfN hC 12 1 1 dX1_givingShelf_12 rfl rfl inlX0 (by decide) hC.kt.2.1 rfl ?_
  refine n_icmp_ge hC 15 22 dX1_givingShelf_15 (by decide) (by omega) (by omega) (fun h15 => ?_) (fun h15 => ?_)
  · skip
    refine k_iconst hC 22 dX1_givingShelf_22 (nI 0) (by decide) ?_
    refine k_istore_n hC 23 1 [(1, .int (nI 0)), (0, .ref (a 0))] dX1_givingShelf_23 rfl (by decide) rfl ?_
    refine k_aload_n hC 24 dX1_givingShelf_24 rfl ?_
    refine k_getf hC 25 0 0 dX1_givingShelf_25 rfl rfl inlX1 (by decide) wq_2_1 rfl ?_
    refine k_getfN hC 28 1 1 dX1_givingShelf_28 rfl rfl inlX0 (by decide) hC.kt.2.1 rfl ?_
    refine k_iconst hC 31 dX1_givingShelf_31 (nI 1) (by decide) ?_
    refine k_aload_n hC 32 dX1_givingShelf_32 rfl ?_
    refine k_getf hC 33 0 8 dX1_givingShelf_33 rfl rfl inlX1 (by decide) wq_6_3 rfl ?_
    refine k_max hC 36 dX1_givingShelf_36 wq_6_9 wq_6_10 wq_6_6 wq_6_11 ⟨Nat.le_of_ble_eq_true rfl, Nat.le_of_ble_eq_true rfl, Nat.le_of_ble_eq_true rfl, Nat.le_of_ble_eq_true rfl⟩ (KJ.topi (y := (nI (max 1 go))) (nmax (by decide) (by omega)) ?_)
    refine n_icmp_lt hC 39 46 dX1_givingShelf_39 (by decide) (by omega) (by omega) (fun h39 => ?_) (fun h39 => ?_)
    · skip
      refine k_iconst hC 46 dX1_givingShelf_46 (nI 0) (by decide) ?_
      refine k_istore_n hC 47 2 [(2, .int (nI 0)), (1, .int (nI 0)), (0, .ref (a 0))] dX1_givingShelf_47 rfl (by decide) rfl ?_
      refine k_aload_n hC 48 dX1_givingShelf_48 rfl ?_
      refine k_aload_n hC 49 dX1_givingShelf_49 rfl ?_
      refine k_getf hC 50 0 1 dX1_givingShelf_50 rfl rfl inlX1 (by decide) wq_2_2 rfl ?_
      refine k_callVr hC 53 0 [0, 3, 4, 11, 12] (c_X1_pinnedOn l D a pl go hi mi re lo (a 3) (a 4) T g1 pi g5 r1 (by omega) kT r5 p9) cw_RX1_73 dX1_givingShelf_53 ⟨Nat.le_of_ble_eq_true rfl, Nat.le_of_ble_eq_true rfl, Nat.le_of_ble_eq_true rfl, Nat.le_of_ble_eq_true rfl⟩ rfl (Nat.le_of_ble_eq_true rfl) rfl rfl rfl (by decide) rfl (fun _ => Nat.le_of_ble_eq_true rfl) (fun _ => rfl) _ rfl (fun v u hp => ?_)
      obtain rfl := hp
      refine KJ.eqs (st' := .int (nI (pc pi T)) :: []) rfl ?_
      refine k_aload_n hC 56 dX1_givingShelf_56 rfl ?_
      refine k_getf hC 57 0 1 dX1_givingShelf_57 rfl rfl inlX1 (by decide) wq_2_2 rfl ?_
      refine k_getfN hC 60 3 1 dX1_givingShelf_60 rfl rfl inlX0 (by decide) hC.kt.2.1 rfl ?_
      refine n_icmp_lt hC 63 70 dX1_givingShelf_63 (by decide) (by omega) (by omega) (fun h63 => ?_) (fun h63 => ?_)
      · skip
        refine k_iconst hC 70 dX1_givingShelf_70 (nI 0) (by decide) ?_
        refine k_istore_n hC 71 3 [(3, .int (nI 0)), (2, .int (nI 0)), (1, .int (nI 0)), (0, .ref (a 0))] dX1_givingShelf_71 rfl (by decide) rfl ?_
        refine k_iload_n hC 72 dX1_givingShelf_72 rfl ?_
        refine n_if_eq hC 73 88 dX1_givingShelf_73 (by decide) (by omega) (fun h73 => ?_) (fun h73 => ?_)
        · skip
          refine k_iconst hC 88 dX1_givingShelf_88 (nI 1) (by decide) ?_
          exact k_iret hC hE 89 () dX1_givingShelf_89 rfl (by rw [gv, if_neg (by omega)]) rfl ⟨Nat.zero_le _, Nat.zero_le _⟩
        · skip
          refine k_iload_n hC 76 dX1_givingShelf_76 rfl ?_
          refine n_if_ne hC 77 84 dX1_givingShelf_77 (by decide) (by omega) (fun h77 => ?_) (fun h77 => ?_)
          · skip
            refine k_iconst hC 84 dX1_givingShelf_84 (nI 0) (by decide) ?_
            refine k_goto hC 85 89 dX1_givingShelf_85 (by decide) ?_
            exact k_iret hC hE 89 () dX1_givingShelf_89 rfl (by rw [gv, if_pos (by omega)]) rfl ⟨Nat.zero_le _, Nat.zero_le _⟩
          · skip
            refine k_iload_n hC 80 dX1_givingShelf_80 rfl ?_
            refine n_if_eq hC 81 88 dX1_givingShelf_81 (by decide) (by omega) (fun h81 => ?_) (fun h81 => ?_)
            · skip
              refine k_iconst hC 88 dX1_givingShelf_88 (nI 1) (by decide) ?_
              exact k_iret hC hE 89 () dX1_givingShelf_89 rfl (by rw [gv, if_neg (by omega)]) rfl ⟨Nat.zero_le _, Nat.zero_le _⟩
            · skip
              refine k_iconst hC 84 dX1_givingShelf_84 (nI 0) (by decide) ?_
              refine k_goto hC 85 89 dX1_givingShelf_85 (by decide) ?_
              exact k_iret hC hE 89 () dX1_givingShelf_89 rfl (by rw [gv, if_pos (by omega)]) rfl ⟨Nat.zero_le _, Nat.zero_le _⟩
      · skip
        refine k_iconst hC 66 dX1_givingShelf_66 (nI 1) (by decide) ?_
        refine k_goto hC 67 71 dX1_givingShelf_67 (by decide) ?_
        refine k_istore_n hC 71 3 [(3, .int (nI 1)), (2, .int (nI 0)), (1, .int (nI 0)), (0, .ref (a 0))] dX1_givingShelf_71 rfl (by decide) rfl ?_
        refine k_iload_n hC 72 dX1_givingShelf_72 rfl ?_
        refine n_if_eq hC 73 88 dX1_givingShelf_73 (by decide) (by omega) (fun h73 => ?_) (fun h73 => ?_)
        · skip
          refine k_iconst hC 88 dX1_givingShelf_88 (nI 1) (by decide) ?_
          exact k_iret hC hE 89 () dX1_givingShelf_89 rfl (by rw [gv, if_neg (by omega)]) rfl ⟨Nat.zero_le _, Nat.zero_le _⟩
        · skip
          refine k_iload_n hC 76 dX1_givingShelf_76 rfl ?_
          refine n_if_ne hC 77 84 dX1_givingShelf_77 (by decide) (by omega) (fun h77 => ?_) (fun h77 => ?_)
          · skip
            refine k_iconst hC 84 dX1_givingShelf_84 (nI 0) (by decide) ?_
            refine k_goto hC 85 89 dX1_givingShelf_85 (by decide) ?_
            exact k_iret hC hE 89 () dX1_givingShelf_89 rfl (by rw [gv, if_pos (by omega)]) rfl ⟨Nat.zero_le _, Nat.zero_le _⟩
          · skip
            refine k_iload_n hC 80 dX1_givingShelf_80 rfl ?_
            refine n_if_eq hC 81 88 dX1_givingShelf_81 (by decide) (by omega) (fun h81 => ?_) (fun h81 => ?_)
            · skip
              refine k_iconst hC 88 dX1_givingShelf_88 (nI 1) (by decide) ?_
              exact k_iret hC hE 89 () dX1_givingShelf_89 rfl (by rw [gv, if_neg (by omega)]) rfl ⟨Nat.zero_le _, Nat.zero_le _⟩
            · skip
              refine k_iconst hC 84 dX1_givingShelf_84 (nI 0) (by decide) ?_
              refine k_goto hC 85 89 dX1_givingShelf_85 (by decide) ?_
              exact k_iret hC hE 89 () dX1_givingShelf_89 rfl (by rw [gv, if_pos (by omega)]) rfl ⟨Nat.zero_le _, Nat.zero_le _⟩
    · skip
      refine k_iconst hC 42 dX1_givingShelf_42 (nI 1) (by decide) ?_
      refine k_goto hC 43 47 dX1_givingShelf_43 (by decide) ?_
      refine k_istore_n hC 47 2 [(2, .int (nI 1)), (1, .int (nI 0)), (0, .ref (a 0))] dX1_givingShelf_47 rfl (by decide) rfl ?_
      refine k_aload_n hC 48 dX1_givingShelf_48 rfl ?_
      refine k_aload_n hC 49 dX1_givingShelf_49 rfl ?_
      refine k_getf hC 50 0 1 dX1_givingShelf_50 rfl rfl inlX1 (by decide) wq_2_2 rfl ?_
      refine k_callVr hC 53 0 [0, 3, 4, 11, 12] (c_X1_pinnedOn l D a pl go hi mi re lo (a 3) (a 4) T g1 pi g5 r1 (by omega) kT r5 p9) cw_RX1_73 dX1_givingShelf_53 ⟨Nat.le_of_ble_eq_true rfl, Nat.le_of_ble_eq_true rfl, Nat.le_of_ble_eq_true rfl, Nat.le_of_ble_eq_true rfl⟩ rfl (Nat.le_of_ble_eq_true rfl) rfl rfl rfl (by decide) rfl (fun _ => Nat.le_of_ble_eq_true rfl) (fun _ => rfl) _ rfl (fun v u hp => ?_)
      obtain rfl := hp
      refine KJ.eqs (st' := .int (nI (pc pi T)) :: []) rfl ?_
      refine k_aload_n hC 56 dX1_givingShelf_56 rfl ?_
      refine k_getf hC 57 0 1 dX1_givingShelf_57 rfl rfl inlX1 (by decide) wq_2_2 rfl ?_
      refine k_getfN hC 60 3 1 dX1_givingShelf_60 rfl rfl inlX0 (by decide) hC.kt.2.1 rfl ?_
      refine n_icmp_lt hC 63 70 dX1_givingShelf_63 (by decide) (by omega) (by omega) (fun h63 => ?_) (fun h63 => ?_)
      · skip
        refine k_iconst hC 70 dX1_givingShelf_70 (nI 0) (by decide) ?_
        refine k_istore_n hC 71 3 [(3, .int (nI 0)), (2, .int (nI 1)), (1, .int (nI 0)), (0, .ref (a 0))] dX1_givingShelf_71 rfl (by decide) rfl ?_
        refine k_iload_n hC 72 dX1_givingShelf_72 rfl ?_
        refine n_if_eq hC 73 88 dX1_givingShelf_73 (by decide) (by omega) (fun h73 => ?_) (fun h73 => ?_)
        · skip
          refine k_iconst hC 88 dX1_givingShelf_88 (nI 1) (by decide) ?_
          exact k_iret hC hE 89 () dX1_givingShelf_89 rfl (by rw [gv, if_neg (by omega)]) rfl ⟨Nat.zero_le _, Nat.zero_le _⟩
        · skip
          refine k_iload_n hC 76 dX1_givingShelf_76 rfl ?_
          refine n_if_ne hC 77 84 dX1_givingShelf_77 (by decide) (by omega) (fun h77 => ?_) (fun h77 => ?_)
          · skip
            refine k_iconst hC 84 dX1_givingShelf_84 (nI 0) (by decide) ?_
            refine k_goto hC 85 89 dX1_givingShelf_85 (by decide) ?_
            exact k_iret hC hE 89 () dX1_givingShelf_89 rfl (by rw [gv, if_pos (by omega)]) rfl ⟨Nat.zero_le _, Nat.zero_le _⟩
          · skip
            refine k_iload_n hC 80 dX1_givingShelf_80 rfl ?_
            refine n_if_eq hC 81 88 dX1_givingShelf_81 (by decide) (by omega) (fun h81 => ?_) (fun h81 => ?_)
            · skip
              refine k_iconst hC 88 dX1_givingShelf_88 (nI 1) (by decide) ?_
              exact k_iret hC hE 89 () dX1_givingShelf_89 rfl (by rw [gv, if_neg (by omega)]) rfl ⟨Nat.zero_le _, Nat.zero_le _⟩
            · skip
              refine k_iconst hC 84 dX1_givingShelf_84 (nI 0) (by decide) ?_
              refine k_goto hC 85 89 dX1_givingShelf_85 (by decide) ?_
              exact k_iret hC hE 89 () dX1_givingShelf_89 rfl (by rw [gv, if_pos (by omega)]) rfl ⟨Nat.zero_le _, Nat.zero_le _⟩
      · skip
        refine k_iconst hC 66 dX1_givingShelf_66 (nI 1) (by decide) ?_
        refine k_goto hC 67 71 dX1_givingShelf_67 (by decide) ?_
        refine k_istore_n hC 71 3 [(3, .int (nI 1)), (2, .int (nI 1)), (1, .int (nI 0)), (0, .ref (a 0))] dX1_givingShelf_71 rfl (by decide) rfl ?_
        refine k_iload_n hC 72 dX1_givingShelf_72 rfl ?_
        refine n_if_eq hC 73 88 dX1_givingShelf_73 (by decide) (by omega) (fun h73 => ?_) (fun h73 => ?_)
        · skip
          refine k_iconst hC 88 dX1_givingShelf_88 (nI 1) (by decide) ?_
          exact k_iret hC hE 89 () dX1_givingShelf_89 rfl (by rw [gv, if_neg (by omega)]) rfl ⟨Nat.zero_le _, Nat.zero_le _⟩
        · skip
          refine k_iload_n hC 76 dX1_givingShelf_76 rfl ?_
          refine n_if_ne hC 77 84 dX1_givingShelf_77 (by decide) (by omega) (fun h77 => ?_) (fun h77 => ?_)
          · skip
            refine k_iconst hC 84 dX1_givingShelf_84 (nI 0) (by decide) ?_
            refine k_goto hC 85 89 dX1_givingShelf_85 (by decide) ?_
            exact k_iret hC hE 89 () dX1_givingShelf_89 rfl (by rw [gv, if_pos (by omega)]) rfl ⟨Nat.zero_le _, Nat.zero_le _⟩
          · skip
            refine k_iload_n hC 80 dX1_givingShelf_80 rfl ?_
            refine n_if_eq hC 81 88 dX1_givingShelf_81 (by decide) (by omega) (fun h81 => ?_) (fun h81 => ?_)
            · skip
              refine k_iconst hC 88 dX1_givingShelf_88 (nI 1) (by decide) ?_
              exact k_iret hC hE 89 () dX1_givingShelf_89 rfl (by rw [gv, if_neg (by omega)]) rfl ⟨Nat.zero_le _, Nat.zero_le _⟩
            · skip
              refine k_iconst hC 84 dX1_givingShelf_84 (nI 0) (by decide) ?_
              refine k_goto hC 85 89 dX1_givingShelf_85 (by decide) ?_
              exact k_iret hC hE 89 () dX1_givingShelf_89 rfl (by rw [gv, if_pos (by omega)]) rfl ⟨Nat.zero_le _, Nat.zero_le _⟩
  · skip
    refine k_iconst hC 18 dX1_givingShelf_18 (nI 1) (by decide) ?_
    refine k_goto hC 19 23 dX1_givingShelf_19 (by decide) ?_
    refine k_istore_n hC 23 1 [(1, .int (nI 1)), (0, .ref (a 0))] dX1_givingShelf_23 rfl (by decide) rfl ?_
    refine k_aload_n hC 24 dX1_givingShelf_24 rfl ?_
    refine k_getf hC 25 0 0 dX1_givingShelf_25 rfl rfl inlX1 (by decide) wq_2_1 rfl ?_
    refine k_getfN hC 28 1 1 dX1_givingShelf_28 rfl rfl inlX0 (by decide) hC.kt.2.1 rfl ?_
    refine k_iconst hC 31 dX1_givingShelf_31 (nI 1) (by decide) ?_
    refine k_aload_n hC 32 dX1_givingShelf_32 rfl ?_
    refine k_getf hC 33 0 8 dX1_givingShelf_33 rfl rfl inlX1 (by decide) wq_6_3 rfl ?_
    refine k_max hC 36 dX1_givingShelf_36 wq_6_9 wq_6_10 wq_6_6 wq_6_11 ⟨Nat.le_of_ble_eq_true rfl, Nat.le_of_ble_eq_true rfl, Nat.le_of_ble_eq_true rfl, Nat.le_of_ble_eq_true rfl⟩ (KJ.topi (y := (nI (max 1 go))) (nmax (by decide) (by omega)) ?_)
    refine n_icmp_lt hC 39 46 dX1_givingShelf_39 (by decide) (by omega) (by omega) (fun h39 => ?_) (fun h39 => ?_)
    · skip
      refine k_iconst hC 46 dX1_givingShelf_46 (nI 0) (by decide) ?_
      refine k_istore_n hC 47 2 [(2, .int (nI 0)), (1, .int (nI 1)), (0, .ref (a 0))] dX1_givingShelf_47 rfl (by decide) rfl ?_
      refine k_aload_n hC 48 dX1_givingShelf_48 rfl ?_
      refine k_aload_n hC 49 dX1_givingShelf_49 rfl ?_
      refine k_getf hC 50 0 1 dX1_givingShelf_50 rfl rfl inlX1 (by decide) wq_2_2 rfl ?_
      refine k_callVr hC 53 0 [0, 3, 4, 11, 12] (c_X1_pinnedOn l D a pl go hi mi re lo (a 3) (a 4) T g1 pi g5 r1 (by omega) kT r5 p9) cw_RX1_73 dX1_givingShelf_53 ⟨Nat.le_of_ble_eq_true rfl, Nat.le_of_ble_eq_true rfl, Nat.le_of_ble_eq_true rfl, Nat.le_of_ble_eq_true rfl⟩ rfl (Nat.le_of_ble_eq_true rfl) rfl rfl rfl (by decide) rfl (fun _ => Nat.le_of_ble_eq_true rfl) (fun _ => rfl) _ rfl (fun v u hp => ?_)
      obtain rfl := hp
      refine KJ.eqs (st' := .int (nI (pc pi T)) :: []) rfl ?_
      refine k_aload_n hC 56 dX1_givingShelf_56 rfl ?_
      refine k_getf hC 57 0 1 dX1_givingShelf_57 rfl rfl inlX1 (by decide) wq_2_2 rfl ?_
      refine k_getfN hC 60 3 1 dX1_givingShelf_60 rfl rfl inlX0 (by decide) hC.kt.2.1 rfl ?_
      refine n_icmp_lt hC 63 70 dX1_givingShelf_63 (by decide) (by omega) (by omega) (fun h63 => ?_) (fun h63 => ?_)
      · skip
        refine k_iconst hC 70 dX1_givingShelf_70 (nI 0) (by decide) ?_
        refine k_istore_n hC 71 3 [(3, .int (nI 0)), (2, .int (nI 0)), (1, .int (nI 1)), (0, .ref (a 0))] dX1_givingShelf_71 rfl (by decide) rfl ?_
        refine k_iload_n hC 72 dX1_givingShelf_72 rfl ?_
        refine n_if_eq hC 73 88 dX1_givingShelf_73 (by decide) (by omega) (fun h73 => ?_) (fun h73 => ?_)
        · skip
          refine k_iconst hC 88 dX1_givingShelf_88 (nI 1) (by decide) ?_
          exact k_iret hC hE 89 () dX1_givingShelf_89 rfl (by rw [gv, if_neg (by omega)]) rfl ⟨Nat.zero_le _, Nat.zero_le _⟩
        · skip
          refine k_iload_n hC 76 dX1_givingShelf_76 rfl ?_
          refine n_if_ne hC 77 84 dX1_givingShelf_77 (by decide) (by omega) (fun h77 => ?_) (fun h77 => ?_)
          · skip
            refine k_iconst hC 84 dX1_givingShelf_84 (nI 0) (by decide) ?_
            refine k_goto hC 85 89 dX1_givingShelf_85 (by decide) ?_
            exact k_iret hC hE 89 () dX1_givingShelf_89 rfl (by rw [gv, if_pos (by omega)]) rfl ⟨Nat.zero_le _, Nat.zero_le _⟩
          · skip
            refine k_iload_n hC 80 dX1_givingShelf_80 rfl ?_
            refine n_if_eq hC 81 88 dX1_givingShelf_81 (by decide) (by omega) (fun h81 => ?_) (fun h81 => ?_)
            · skip
              refine k_iconst hC 88 dX1_givingShelf_88 (nI 1) (by decide) ?_
              exact k_iret hC hE 89 () dX1_givingShelf_89 rfl (by rw [gv, if_neg (by omega)]) rfl ⟨Nat.zero_le _, Nat.zero_le _⟩
            · skip
              refine k_iconst hC 84 dX1_givingShelf_84 (nI 0) (by decide) ?_
              refine k_goto hC 85 89 dX1_givingShelf_85 (by decide) ?_
              exact k_iret hC hE 89 () dX1_givingShelf_89 rfl (by rw [gv, if_pos (by omega)]) rfl ⟨Nat.zero_le _, Nat.zero_le _⟩
      · skip
        refine k_iconst hC 66 dX1_givingShelf_66 (nI 1) (by decide) ?_
        refine k_goto hC 67 71 dX1_givingShelf_67 (by decide) ?_
        refine k_istore_n hC 71 3 [(3, .int (nI 1)), (2, .int (nI 0)), (1, .int (nI 1)), (0, .ref (a 0))] dX1_givingShelf_71 rfl (by decide) rfl ?_
        refine k_iload_n hC 72 dX1_givingShelf_72 rfl ?_
        refine n_if_eq hC 73 88 dX1_givingShelf_73 (by decide) (by omega) (fun h73 => ?_) (fun h73 => ?_)
        · skip
          refine k_iconst hC 88 dX1_givingShelf_88 (nI 1) (by decide) ?_
          exact k_iret hC hE 89 () dX1_givingShelf_89 rfl (by rw [gv, if_neg (by omega)]) rfl ⟨Nat.zero_le _, Nat.zero_le _⟩
        · skip
          refine k_iload_n hC 76 dX1_givingShelf_76 rfl ?_
          refine n_if_ne hC 77 84 dX1_givingShelf_77 (by decide) (by omega) (fun h77 => ?_) (fun h77 => ?_)
          · skip
            refine k_iconst hC 84 dX1_givingShelf_84 (nI 0) (by decide) ?_
            refine k_goto hC 85 89 dX1_givingShelf_85 (by decide) ?_
            exact k_iret hC hE 89 () dX1_givingShelf_89 rfl (by rw [gv, if_pos (by omega)]) rfl ⟨Nat.zero_le _, Nat.zero_le _⟩
          · skip
            refine k_iload_n hC 80 dX1_givingShelf_80 rfl ?_
            refine n_if_eq hC 81 88 dX1_givingShelf_81 (by decide) (by omega) (fun h81 => ?_) (fun h81 => ?_)
            · skip
              refine k_iconst hC 88 dX1_givingShelf_88 (nI 1) (by decide) ?_
              exact k_iret hC hE 89 () dX1_givingShelf_89 rfl (by rw [gv, if_neg (by omega)]) rfl ⟨Nat.zero_le _, Nat.zero_le _⟩
            · skip
              refine k_iconst hC 84 dX1_givingShelf_84 (nI 0) (by decide) ?_
              refine k_goto hC 85 89 dX1_givingShelf_85 (by decide) ?_
              exact k_iret hC hE 89 () dX1_givingShelf_89 rfl (by rw [gv, if_pos (by omega)]) rfl ⟨Nat.zero_le _, Nat.zero_le _⟩
    · skip
      refine k_iconst hC 42 dX1_givingShelf_42 (nI 1) (by decide) ?_
      refine k_goto hC 43 47 dX1_givingShelf_43 (by decide) ?_
      refine k_istore_n hC 47 2 [(2, .int (nI 1)), (1, .int (nI 1)), (0, .ref (a 0))] dX1_givingShelf_47 rfl (by decide) rfl ?_
      refine k_aload_n hC 48 dX1_givingShelf_48 rfl ?_
      refine k_aload_n hC 49 dX1_givingShelf_49 rfl ?_
      refine k_getf hC 50 0 1 dX1_givingShelf_50 rfl rfl inlX1 (by decide) wq_2_2 rfl ?_
      refine k_callVr hC 53 0 [0, 3, 4, 11, 12] (c_X1_pinnedOn l D a pl go hi mi re lo (a 3) (a 4) T g1 pi g5 r1 (by omega) kT r5 p9) cw_RX1_73 dX1_givingShelf_53 ⟨Nat.le_of_ble_eq_true rfl, Nat.le_of_ble_eq_true rfl, Nat.le_of_ble_eq_true rfl, Nat.le_of_ble_eq_true rfl⟩ rfl (Nat.le_of_ble_eq_true rfl) rfl rfl rfl (by decide) rfl (fun _ => Nat.le_of_ble_eq_true rfl) (fun _ => rfl) _ rfl (fun v u hp => ?_)
      obtain rfl := hp
      refine KJ.eqs (st' := .int (nI (pc pi T)) :: []) rfl ?_
      refine k_aload_n hC 56 dX1_givingShelf_56 rfl ?_
      refine k_getf hC 57 0 1 dX1_givingShelf_57 rfl rfl inlX1 (by decide) wq_2_2 rfl ?_
      refine k_getfN hC 60 3 1 dX1_givingShelf_60 rfl rfl inlX0 (by decide) hC.kt.2.1 rfl ?_
      refine n_icmp_lt hC 63 70 dX1_givingShelf_63 (by decide) (by omega) (by omega) (fun h63 => ?_) (fun h63 => ?_)
      · skip
        refine k_iconst hC 70 dX1_givingShelf_70 (nI 0) (by decide) ?_
        refine k_istore_n hC 71 3 [(3, .int (nI 0)), (2, .int (nI 1)), (1, .int (nI 1)), (0, .ref (a 0))] dX1_givingShelf_71 rfl (by decide) rfl ?_
        refine k_iload_n hC 72 dX1_givingShelf_72 rfl ?_
        refine n_if_eq hC 73 88 dX1_givingShelf_73 (by decide) (by omega) (fun h73 => ?_) (fun h73 => ?_)
        · skip
          refine k_iconst hC 88 dX1_givingShelf_88 (nI 1) (by decide) ?_
          exact k_iret hC hE 89 () dX1_givingShelf_89 rfl (by rw [gv, if_neg (by omega)]) rfl ⟨Nat.zero_le _, Nat.zero_le _⟩
        · skip
          refine k_iload_n hC 76 dX1_givingShelf_76 rfl ?_
          refine n_if_ne hC 77 84 dX1_givingShelf_77 (by decide) (by omega) (fun h77 => ?_) (fun h77 => ?_)
          · skip
            refine k_iconst hC 84 dX1_givingShelf_84 (nI 0) (by decide) ?_
            refine k_goto hC 85 89 dX1_givingShelf_85 (by decide) ?_
            exact k_iret hC hE 89 () dX1_givingShelf_89 rfl (by rw [gv, if_pos (by omega)]) rfl ⟨Nat.zero_le _, Nat.zero_le _⟩
          · skip
            refine k_iload_n hC 80 dX1_givingShelf_80 rfl ?_
            refine n_if_eq hC 81 88 dX1_givingShelf_81 (by decide) (by omega) (fun h81 => ?_) (fun h81 => ?_)
            · skip
              refine k_iconst hC 88 dX1_givingShelf_88 (nI 1) (by decide) ?_
              exact k_iret hC hE 89 () dX1_givingShelf_89 rfl (by rw [gv, if_neg (by omega)]) rfl ⟨Nat.zero_le _, Nat.zero_le _⟩
            · skip
              refine k_iconst hC 84 dX1_givingShelf_84 (nI 0) (by decide) ?_
              refine k_goto hC 85 89 dX1_givingShelf_85 (by decide) ?_
              exact k_iret hC hE 89 () dX1_givingShelf_89 rfl (by rw [gv, if_pos (by omega)]) rfl ⟨Nat.zero_le _, Nat.zero_le _⟩
      · skip
        refine k_iconst hC 66 dX1_givingShelf_66 (nI 1) (by decide) ?_
        refine k_goto hC 67 71 dX1_givingShelf_67 (by decide) ?_
        refine k_istore_n hC 71 3 [(3, .int (nI 1)), (2, .int (nI 1)), (1, .int (nI 1)), (0, .ref (a 0))] dX1_givingShelf_71 rfl (by decide) rfl ?_
        refine k_iload_n hC 72 dX1_givingShelf_72 rfl ?_
        refine n_if_eq hC 73 88 dX1_givingShelf_73 (by decide) (by omega) (fun h73 => ?_) (fun h73 => ?_)
        · skip
          refine k_iconst hC 88 dX1_givingShelf_88 (nI 1) (by decide) ?_
          exact k_iret hC hE 89 () dX1_givingShelf_89 rfl (by rw [gv, if_neg (by omega)]) rfl ⟨Nat.zero_le _, Nat.zero_le _⟩
        · skip
          refine k_iload_n hC 76 dX1_givingShelf_76 rfl ?_
          refine n_if_ne hC 77 84 dX1_givingShelf_77 (by decide) (by omega) (fun h77 => ?_) (fun h77 => ?_)
          · skip
            refine k_iconst hC 84 dX1_givingShelf_84 (nI 0) (by decide) ?_
            refine k_goto hC 85 89 dX1_givingShelf_85 (by decide) ?_
            exact k_iret hC hE 89 () dX1_givingShelf_89 rfl (by rw [gv, if_pos (by omega)]) rfl ⟨Nat.zero_le _, Nat.zero_le _⟩
          · skip
            refine k_iload_n hC 80 dX1_givingShelf_80 rfl ?_
            refine n_if_eq hC 81 88 dX1_givingShelf_81 (by decide) (by omega) (fun h81 => ?_) (fun h81 => ?_)
            · skip
              refine k_iconst hC 88 dX1_givingShelf_88 (nI 1) (by decide) ?_
              exact k_iret hC hE 89 () dX1_givingShelf_89 rfl (by rw [gv, if_neg (by omega)]) rfl ⟨Nat.zero_le _, Nat.zero_le _⟩
            · skip
              refine k_iconst hC 84 dX1_givingShelf_84 (nI 0) (by decide) ?_
              refine k_goto hC 85 89 dX1_givingShelf_85 (by decide) ?_
              exact k_iret hC hE 89 () dX1_givingShelf_89 rfl (by rw [gv, if_pos (by omega)]) rfl ⟨Nat.zero_le _, Nat.zero_le _⟩
set_option maxHeartbeats 4000000 in
set_option maxRecDepth 100000 in
/-- turn -/
theorem c_X1_turn (l : Launch) (D : va_G) (r q r2 q2 : Nat) (x y : Nat) (hx : x ≤ 40) (hy : y ≤ 40) : MU l yX1_turn cX1_turn 3 (some .int) 1 13 D [.ref r, .ref r2] [(r, .inr (0, [.ref q, .int (nI x)])), (r2, .inr (0, [.ref q2, .int (nI y)]))] (fun v (_ : Unit) => v = some (.int (nI (max 1 (x / y))))) (fun _ => [(r, .inr (0, [.ref q, .int (nI x)])), (r2, .inr (0, [.ref q2, .int (nI y)]))]) 0 0 := by
  refine MU.enter (by decide) [(0, .ref r), (1, .ref r2)] rfl (Nat.le_of_ble_eq_true rfl) (fun G hC hE => ?_)
  have hC : CX G D cX1_turn RX1 3 := hC
  refine k_aload_n hC 0 dX1_turn_0 rfl ?_
  refine k_getfN hC 1 1 1 dX1_turn_1 rfl rfl inlX0 (by decide) hC.kt.2.1 rfl ?_
  refine k_istore_n hC 4 2 [(2, .int (nI y)), (0, .ref r), (1, .ref r2)] dX1_turn_4 rfl (by decide) rfl ?_
  refine k_iload_n hC 5 dX1_turn_5 rfl ?_
  refine k_iconst hC 6 dX1_turn_6 (nI 1) (by decide) ?_
  refine n_icmp_ge hC 7 14 dX1_turn_7 (by decide) (by omega) (by omega) (fun h7 => ?_) (fun h7 => ?_)
  · skip
    refine k_iconst hC 14 dX1_turn_14 (nI 1) (by decide) ?_
    refine k_aload_n hC 15 dX1_turn_15 rfl ?_
    refine k_getfN hC 16 0 1 dX1_turn_16 rfl rfl inlX0 (by decide) hC.kt.2.1 rfl ?_
    refine k_iload_n hC 19 dX1_turn_19 rfl ?_
    refine k_idiv hC 20 dX1_turn_20 (nI_ne0 (by omega) (by omega)) (KJ.topi (y := (nI (x / y))) (pk_div (by omega) (by omega) (by omega)) ?_)
    refine k_max hC 21 dX1_turn_21 wq_6_9 wq_6_10 wq_6_6 wq_6_11 ⟨Nat.le_of_ble_eq_true rfl, Nat.le_of_ble_eq_true rfl, Nat.le_of_ble_eq_true rfl, Nat.le_of_ble_eq_true rfl⟩ (KJ.topi (y := (nI (max 1 (x / y)))) (nmax (by decide) (Nat.lt_of_le_of_lt (Nat.div_le_self x y) (by omega))) ?_)
    exact k_iret hC hE 24 () dX1_turn_24 rfl rfl rfl ⟨Nat.zero_le _, Nat.zero_le _⟩
  · skip
    refine k_iconst hC 10 dX1_turn_10 (nI 1) (by decide) ?_
    refine k_goto hC 11 24 dX1_turn_11 (by decide) ?_
    exact k_iret hC hE 24 () dX1_turn_24 rfl (by rw [show y = 0 by omega, Nat.div_zero]; rfl) rfl ⟨Nat.zero_le _, Nat.zero_le _⟩
end
section
/-! PinnedPantry$Store: what changes it -/
theorem c_X0_takeOut_ix (l : Launch) (D : va_G) (r q : Nat) (L : List Nat) (f : Nat → Int32) (k : Nat) (hR : RowL L f) (hL : L.length ≤ 40) : MU l yX0_takeOut cX0_takeOut 3 none 0 0 D [.ref r, .int (ixv L k)] [(r, .inr (0, [.ref q, .int (nI L.length)])), (q, .inl (D.1 5, 40, .inl f))] (fun v (u : Nat → Int32) => v = none ∧ RowL (ea L k) u) (fun u => [(r, .inr (0, [.ref q, .int (nI (ea L k).length)])), (q, .inl (D.1 5, 40, .inl u))]) 0 0 := by
  by_cases h : k ∈ L
  · rw [ixv_in h, ea, if_pos h]
    exact c_X0_takeOut l D r q L f (L.idxOf k) hR hL (List.idxOf_lt_length_of_mem h)
  · rw [ixv_out h, ea, if_neg h]
    exact c_X0_takeOut_no l D r q L f hR hL
set_option maxHeartbeats 4000000 in
set_option maxRecDepth 100000 in
/-- recall -/
theorem c_X1_recall (l : Launch) (D : va_G) (a : Nat → Nat) (N T A B : List Nat) (to pi : Nat → Nat) (fe : Nat → Int32) (pl go : Nat) (hi mi re lo : Int32) (g0 g1 g2 g3 g4 g5 g6 : Nat → Int32) (k o : Nat) (hS : SR (N, T, A, B, to, pi, fe, pl, go, hi, mi, re, lo) (g0, g1, g2, g3, g4, g5, g6)) (hW : WF (N, T, A, B, to, pi, fe, pl, go, hi, mi, re, lo)) (hk : k < 40) (ho : o < 4) (h2 : o = 2 → k ∈ A) (h3 : o = 3 → k ∈ B) : MU l yX1_recall cX1_recall 3 none 2 35 D [.ref (a 0), .int (nI k), .int (nI o)] [((a 0), .inr (1, [.ref (a 1), .ref (a 3), .ref (a 5), .ref (a 7), .ref (a 9), .ref (a 11), .ref (a 13), .int (nI pl), .int (nI go), .int hi, .int mi, .int re, .int lo])), ((a 1), .inr (0, [.ref (a 2), .int (nI N.length)])), ((a 2), .inl (D.1 5, 40, .inl g0)), ((a 3), .inr (0, [.ref (a 4), .int (nI T.length)])), ((a 4), .inl (D.1 5, 40, .inl g1)), ((a 5), .inr (0, [.ref (a 6), .int (nI A.length)])), ((a 6), .inl (D.1 5, 40, .inl g2)), ((a 7), .inr (0, [.ref (a 8), .int (nI B.length)])), ((a 8), .inl (D.1 5, 40, .inl g3)), ((a 9), .inr (2, [.ref (a 10)])), ((a 10), .inl (D.1 5, 40, .inl g4)), ((a 11), .inr (2, [.ref (a 12)])), ((a 12), .inl (D.1 5, 40, .inl g5)), ((a 13), .inr (2, [.ref (a 14)])), ((a 14), .inl (D.1 5, 40, .inl g6))] (fun v (u : PS × PG) => v = none ∧ u.1 = rcl (N, T, A, B, to, pi, fe, pl, go, hi, mi, re, lo) k o ∧ SR u.1 u.2) (fun u => wSt D a u.1 u.2) 0 0 := by
  refine MU.enter (by decide) [(0, .ref (a 0)), (1, .int (nI k)), (2, .int (nI o))] rfl (Nat.le_of_ble_eq_true rfl) (fun G hC hE => ?_)
  have hC : CX G D cX1_recall RX1 3 := hC
  have hS0 := hS
  have hW0 := hW
  obtain ⟨r0, r1, r2, r3, r4, r5, r6⟩ := hS
  obtain ⟨kN, kT, kA, kB, nd, len, lA, lB, p2, p12, g12, t1, p9⟩ := hW
  have tb1 := tn_le (x := B) (y := A) lB
  have tb2 := tn_le (x := A) (y := B) lA
  refine k_iload_n hC 0 dX1_recall_0 rfl ?_
  refine k_iconst hC 1 dX1_recall_1 (nI 2) (by decide) ?_
  refine n_icmp_ne hC 2 60 dX1_recall_2 (by decide) (by omega) (by omega) (fun e2 => ?_) (fun e2 => ?_)
  · skip
    refine k_iload_n hC 60 dX1_recall_60 rfl ?_
    refine k_iconst hC 61 dX1_recall_61 (nI 3) (by decide) ?_
    refine n_icmp_ne hC 62 114 dX1_recall_62 (by decide) (by omega) (by omega) (fun e3 => ?_) (fun e3 => ?_)
    · skip
      exact k_vret hC hE 114 ((N, T, A, B, to, pi, fe, pl, go, hi, mi, re, lo), (g0, g1, g2, g3, g4, g5, g6)) dX1_recall_114 (⟨rfl, by rw [rcl, if_neg e2, if_neg e3], r0, r1, r2, r3, r4, r5, r6⟩) rfl ⟨Nat.zero_le _, Nat.zero_le _⟩
    · skip
      refine k_aload_n hC 65 dX1_recall_65 rfl ?_
      refine k_iconst hC 66 dX1_recall_66 (nI 0) (by decide) ?_
      refine k_aload_n hC 67 dX1_recall_67 rfl ?_
      refine k_getf hC 68 0 8 dX1_recall_68 rfl rfl inlX1 (by decide) wq_6_3 rfl ?_
      refine k_aload_n hC 71 dX1_recall_71 rfl ?_
      refine k_getf hC 72 0 2 dX1_recall_72 rfl rfl inlX1 (by decide) wq_2_3 rfl ?_
      refine k_aload_n hC 75 dX1_recall_75 rfl ?_
      refine k_getf hC 76 0 3 dX1_recall_76 rfl rfl inlX1 (by decide) wq_2_4 rfl ?_
      have hm := h3 e3
      refine k_callSr hC 79 [5, 7] (c_X1_turn l D (a 5) (a 6) (a 7) (a 8) A.length B.length (by omega) (by omega)) cw_RX1_114 dX1_recall_79 ⟨Nat.le_of_ble_eq_true rfl, Nat.le_of_ble_eq_true rfl, Nat.le_of_ble_eq_true rfl, Nat.le_of_ble_eq_true rfl⟩ rfl (Nat.le_of_ble_eq_true rfl) (by decide) rfl (fun _ => Nat.le_of_ble_eq_true rfl) (fun _ => rfl) _ rfl (fun v u hp => ?_)
      obtain rfl := hp
      refine KJ.eqs (st' := .int (nI (max 1 (A.length / B.length))) :: .int (nI go) :: .int (nI 0) :: .ref (a 0) :: []) rfl ?_
      refine KJ.topi (y := (nI (tn A B))) rfl ?_
      refine k_isub hC 82 dX1_recall_82 (KJ.topi (y := (nI go - nI (tn A B))) rfl ?_)
      refine k_max hC 83 dX1_recall_83 wq_6_9 wq_6_10 wq_6_6 wq_6_11 ⟨Nat.le_of_ble_eq_true rfl, Nat.le_of_ble_eq_true rfl, Nat.le_of_ble_eq_true rfl, Nat.le_of_ble_eq_true rfl⟩ (KJ.topi (y := (nI (go - tn A B))) (nsubmax (by omega) (by omega)) ?_)
      refine k_putf hC 86 (ty0 := tyX1) 0 8 [((a 0), .inr (1, [.ref (a 1), .ref (a 3), .ref (a 5), .ref (a 7), .ref (a 9), .ref (a 11), .ref (a 13), .int (nI pl), .int (nI (go - tn A B)), .int hi, .int mi, .int re, .int lo])), ((a 1), .inr (0, [.ref (a 2), .int (nI N.length)])), ((a 2), .inl (D.1 5, 40, .inl g0)), ((a 3), .inr (0, [.ref (a 4), .int (nI T.length)])), ((a 4), .inl (D.1 5, 40, .inl g1)), ((a 5), .inr (0, [.ref (a 6), .int (nI A.length)])), ((a 6), .inl (D.1 5, 40, .inl g2)), ((a 7), .inr (0, [.ref (a 8), .int (nI B.length)])), ((a 8), .inl (D.1 5, 40, .inl g3)), ((a 9), .inr (2, [.ref (a 10)])), ((a 10), .inl (D.1 5, 40, .inl g4)), ((a 11), .inr (2, [.ref (a 12)])), ((a 12), .inl (D.1 5, 40, .inl g5)), ((a 13), .inr (2, [.ref (a 14)])), ((a 14), .inl (D.1 5, 40, .inl g6))] dX1_recall_86 rfl rfl inlX1 tyX1_ok nmX1 (by decide) wq_6_3 rfl rfl rfl (Nat.le_of_ble_eq_true rfl) rfl ?_
      refine k_aload_n hC 89 dX1_recall_89 rfl ?_
      refine k_getf hC 90 0 3 dX1_recall_90 rfl rfl inlX1 (by decide) wq_2_4 rfl ?_
      refine k_aload_n hC 93 dX1_recall_93 rfl ?_
      refine k_getf hC 94 0 3 dX1_recall_94 rfl rfl inlX1 (by decide) wq_2_4 rfl ?_
      refine k_iload_n hC 97 dX1_recall_97 rfl ?_
      refine k_callVr hC 98 7 [7, 8] (c_X0_placeOf l D (a 7) (a 8) B g3 k r3 (by omega) kB hk) cw_RX1_124 dX1_recall_98 ⟨Nat.le_of_ble_eq_true rfl, Nat.le_of_ble_eq_true rfl, Nat.le_of_ble_eq_true rfl, Nat.le_of_ble_eq_true rfl⟩ rfl (Nat.le_of_ble_eq_true rfl) rfl rfl rfl (by decide) rfl (fun _ => Nat.le_of_ble_eq_true rfl) (fun _ => rfl) _ rfl (fun v u hp => ?_)
      obtain rfl := hp
      refine KJ.eqs (st' := .int (ixv B k) :: .ref (a 7) :: []) rfl ?_
      refine KJ.topi (y := (nI (B.idxOf k))) (ixv_in hm) ?_
      refine k_callV hC 101 7 [7, 8] (fun x => [((a 0), .inr (1, [.ref (a 1), .ref (a 3), .ref (a 5), .ref (a 7), .ref (a 9), .ref (a 11), .ref (a 13), .int (nI pl), .int (nI (go - tn A B)), .int hi, .int mi, .int re, .int lo])), ((a 1), .inr (0, [.ref (a 2), .int (nI N.length)])), ((a 2), .inl (D.1 5, 40, .inl g0)), ((a 3), .inr (0, [.ref (a 4), .int (nI T.length)])), ((a 4), .inl (D.1 5, 40, .inl g1)), ((a 5), .inr (0, [.ref (a 6), .int (nI A.length)])), ((a 6), .inl (D.1 5, 40, .inl g2)), ((a 7), .inr (0, [.ref (a 8), .int (nI ((B.eraseIdx (B.idxOf k)).length))])), ((a 8), .inl (D.1 5, 40, .inl x)), ((a 9), .inr (2, [.ref (a 10)])), ((a 10), .inl (D.1 5, 40, .inl g4)), ((a 11), .inr (2, [.ref (a 12)])), ((a 12), .inl (D.1 5, 40, .inl g5)), ((a 13), .inr (2, [.ref (a 14)])), ((a 14), .inl (D.1 5, 40, .inl g6))]) (c_X0_takeOut l D (a 7) (a 8) B g3 (B.idxOf k) r3 (by omega) (List.idxOf_lt_length_of_mem hm)) cw_RX1_127 dX1_recall_101 ⟨Nat.le_of_ble_eq_true rfl, Nat.le_of_ble_eq_true rfl, Nat.le_of_ble_eq_true rfl, Nat.le_of_ble_eq_true rfl⟩ rfl (Nat.le_of_ble_eq_true rfl) rfl rfl rfl (by decide) rfl (fun _ => Nat.le_of_ble_eq_true rfl) (fun _ => rfl) _ rfl (fun v x hp => ?_)
      obtain ⟨rfl, hx⟩ := hp
      refine KJ.eqs (st' := []) rfl ?_
      refine k_aload_n hC 104 dX1_recall_104 rfl ?_
      refine k_dup hC 105 dX1_recall_105 rfl ?_
      refine k_getf hC 106 0 11 dX1_recall_106 rfl rfl inlX1 (by decide) wq_6_8 rfl ?_
      refine k_iconst hC 109 dX1_recall_109 (nI 1) (by decide) ?_
      refine k_iadd hC 110 dX1_recall_110 (KJ.topi (y := (re + 1)) rfl ?_)
      refine k_putf hC 111 (ty0 := tyX1) 0 11 [((a 0), .inr (1, [.ref (a 1), .ref (a 3), .ref (a 5), .ref (a 7), .ref (a 9), .ref (a 11), .ref (a 13), .int (nI pl), .int (nI (go - tn A B)), .int hi, .int mi, .int (re + 1), .int lo])), ((a 1), .inr (0, [.ref (a 2), .int (nI N.length)])), ((a 2), .inl (D.1 5, 40, .inl g0)), ((a 3), .inr (0, [.ref (a 4), .int (nI T.length)])), ((a 4), .inl (D.1 5, 40, .inl g1)), ((a 5), .inr (0, [.ref (a 6), .int (nI A.length)])), ((a 6), .inl (D.1 5, 40, .inl g2)), ((a 7), .inr (0, [.ref (a 8), .int (nI ((B.eraseIdx (B.idxOf k)).length))])), ((a 8), .inl (D.1 5, 40, .inl x)), ((a 9), .inr (2, [.ref (a 10)])), ((a 10), .inl (D.1 5, 40, .inl g4)), ((a 11), .inr (2, [.ref (a 12)])), ((a 12), .inl (D.1 5, 40, .inl g5)), ((a 13), .inr (2, [.ref (a 14)])), ((a 14), .inl (D.1 5, 40, .inl g6))] dX1_recall_111 rfl rfl inlX1 tyX1_ok nmX1 (by decide) wq_6_8 rfl rfl rfl (Nat.le_of_ble_eq_true rfl) rfl ?_
      exact k_vret hC hE 114 ((N, T, A, (B.eraseIdx (B.idxOf k)), to, pi, fe, pl, go - tn A B, hi, mi, re + 1, lo), (g0, g1, g2, x, g4, g5, g6)) dX1_recall_114 (⟨rfl, by rw [rcl, if_neg e2, if_pos e3], r0, r1, r2, hx, r4, r5, r6⟩) rfl ⟨Nat.zero_le _, Nat.zero_le _⟩
  · skip
    refine k_aload_n hC 5 dX1_recall_5 rfl ?_
    refine k_aload_n hC 6 dX1_recall_6 rfl ?_
    refine k_getf hC 7 0 7 dX1_recall_7 rfl rfl inlX1 (by decide) wq_2_11 rfl ?_
    refine k_aload_n hC 10 dX1_recall_10 rfl ?_
    refine k_getf hC 11 0 8 dX1_recall_11 rfl rfl inlX1 (by decide) wq_6_3 rfl ?_
    refine k_aload_n hC 14 dX1_recall_14 rfl ?_
    refine k_getf hC 15 0 3 dX1_recall_15 rfl rfl inlX1 (by decide) wq_2_4 rfl ?_
    refine k_aload_n hC 18 dX1_recall_18 rfl ?_
    refine k_getf hC 19 0 2 dX1_recall_19 rfl rfl inlX1 (by decide) wq_2_3 rfl ?_
    have hm := h2 e2
    refine k_callSr hC 22 [7, 5] (c_X1_turn l D (a 7) (a 8) (a 5) (a 6) B.length A.length (by omega) (by omega)) cw_RX1_114 dX1_recall_22 ⟨Nat.le_of_ble_eq_true rfl, Nat.le_of_ble_eq_true rfl, Nat.le_of_ble_eq_true rfl, Nat.le_of_ble_eq_true rfl⟩ rfl (Nat.le_of_ble_eq_true rfl) (by decide) rfl (fun _ => Nat.le_of_ble_eq_true rfl) (fun _ => rfl) _ rfl (fun v u hp => ?_)
    obtain rfl := hp
    refine KJ.eqs (st' := .int (nI (max 1 (B.length / A.length))) :: .int (nI go) :: .int (nI pl) :: .ref (a 0) :: []) rfl ?_
    refine KJ.topi (y := (nI (tn B A))) rfl ?_
    refine n_iadd hC 25 (go + (tn B A)) dX1_recall_25 rfl ?_
    refine k_min hC 26 dX1_recall_26 wq_6_4 wq_6_5 wq_6_6 wq_6_7 ⟨Nat.le_of_ble_eq_true rfl, Nat.le_of_ble_eq_true rfl, Nat.le_of_ble_eq_true rfl, Nat.le_of_ble_eq_true rfl⟩ (KJ.topi (y := (nI (min pl (go + tn B A)))) (nmin (by omega) (by omega)) ?_)
    refine k_putf hC 29 (ty0 := tyX1) 0 8 [((a 0), .inr (1, [.ref (a 1), .ref (a 3), .ref (a 5), .ref (a 7), .ref (a 9), .ref (a 11), .ref (a 13), .int (nI pl), .int (nI (min pl (go + tn B A))), .int hi, .int mi, .int re, .int lo])), ((a 1), .inr (0, [.ref (a 2), .int (nI N.length)])), ((a 2), .inl (D.1 5, 40, .inl g0)), ((a 3), .inr (0, [.ref (a 4), .int (nI T.length)])), ((a 4), .inl (D.1 5, 40, .inl g1)), ((a 5), .inr (0, [.ref (a 6), .int (nI A.length)])), ((a 6), .inl (D.1 5, 40, .inl g2)), ((a 7), .inr (0, [.ref (a 8), .int (nI B.length)])), ((a 8), .inl (D.1 5, 40, .inl g3)), ((a 9), .inr (2, [.ref (a 10)])), ((a 10), .inl (D.1 5, 40, .inl g4)), ((a 11), .inr (2, [.ref (a 12)])), ((a 12), .inl (D.1 5, 40, .inl g5)), ((a 13), .inr (2, [.ref (a 14)])), ((a 14), .inl (D.1 5, 40, .inl g6))] dX1_recall_29 rfl rfl inlX1 tyX1_ok nmX1 (by decide) wq_6_3 rfl rfl rfl (Nat.le_of_ble_eq_true rfl) rfl ?_
    refine k_aload_n hC 32 dX1_recall_32 rfl ?_
    refine k_getf hC 33 0 2 dX1_recall_33 rfl rfl inlX1 (by decide) wq_2_3 rfl ?_
    refine k_aload_n hC 36 dX1_recall_36 rfl ?_
    refine k_getf hC 37 0 2 dX1_recall_37 rfl rfl inlX1 (by decide) wq_2_3 rfl ?_
    refine k_iload_n hC 40 dX1_recall_40 rfl ?_
    refine k_callVr hC 41 5 [5, 6] (c_X0_placeOf l D (a 5) (a 6) A g2 k r2 (by omega) kA hk) cw_RX1_124 dX1_recall_41 ⟨Nat.le_of_ble_eq_true rfl, Nat.le_of_ble_eq_true rfl, Nat.le_of_ble_eq_true rfl, Nat.le_of_ble_eq_true rfl⟩ rfl (Nat.le_of_ble_eq_true rfl) rfl rfl rfl (by decide) rfl (fun _ => Nat.le_of_ble_eq_true rfl) (fun _ => rfl) _ rfl (fun v u hp => ?_)
    obtain rfl := hp
    refine KJ.eqs (st' := .int (ixv A k) :: .ref (a 5) :: []) rfl ?_
    refine KJ.topi (y := (nI (A.idxOf k))) (ixv_in hm) ?_
    refine k_callV hC 44 5 [5, 6] (fun x => [((a 0), .inr (1, [.ref (a 1), .ref (a 3), .ref (a 5), .ref (a 7), .ref (a 9), .ref (a 11), .ref (a 13), .int (nI pl), .int (nI (min pl (go + tn B A))), .int hi, .int mi, .int re, .int lo])), ((a 1), .inr (0, [.ref (a 2), .int (nI N.length)])), ((a 2), .inl (D.1 5, 40, .inl g0)), ((a 3), .inr (0, [.ref (a 4), .int (nI T.length)])), ((a 4), .inl (D.1 5, 40, .inl g1)), ((a 5), .inr (0, [.ref (a 6), .int (nI ((A.eraseIdx (A.idxOf k)).length))])), ((a 6), .inl (D.1 5, 40, .inl x)), ((a 7), .inr (0, [.ref (a 8), .int (nI B.length)])), ((a 8), .inl (D.1 5, 40, .inl g3)), ((a 9), .inr (2, [.ref (a 10)])), ((a 10), .inl (D.1 5, 40, .inl g4)), ((a 11), .inr (2, [.ref (a 12)])), ((a 12), .inl (D.1 5, 40, .inl g5)), ((a 13), .inr (2, [.ref (a 14)])), ((a 14), .inl (D.1 5, 40, .inl g6))]) (c_X0_takeOut l D (a 5) (a 6) A g2 (A.idxOf k) r2 (by omega) (List.idxOf_lt_length_of_mem hm)) cw_RX1_127 dX1_recall_44 ⟨Nat.le_of_ble_eq_true rfl, Nat.le_of_ble_eq_true rfl, Nat.le_of_ble_eq_true rfl, Nat.le_of_ble_eq_true rfl⟩ rfl (Nat.le_of_ble_eq_true rfl) rfl rfl rfl (by decide) rfl (fun _ => Nat.le_of_ble_eq_true rfl) (fun _ => rfl) _ rfl (fun v x hp => ?_)
    obtain ⟨rfl, hx⟩ := hp
    refine KJ.eqs (st' := []) rfl ?_
    refine k_aload_n hC 47 dX1_recall_47 rfl ?_
    refine k_dup hC 48 dX1_recall_48 rfl ?_
    refine k_getf hC 49 0 11 dX1_recall_49 rfl rfl inlX1 (by decide) wq_6_8 rfl ?_
    refine k_iconst hC 52 dX1_recall_52 (nI 1) (by decide) ?_
    refine k_iadd hC 53 dX1_recall_53 (KJ.topi (y := (re + 1)) rfl ?_)
    refine k_putf hC 54 (ty0 := tyX1) 0 11 [((a 0), .inr (1, [.ref (a 1), .ref (a 3), .ref (a 5), .ref (a 7), .ref (a 9), .ref (a 11), .ref (a 13), .int (nI pl), .int (nI (min pl (go + tn B A))), .int hi, .int mi, .int (re + 1), .int lo])), ((a 1), .inr (0, [.ref (a 2), .int (nI N.length)])), ((a 2), .inl (D.1 5, 40, .inl g0)), ((a 3), .inr (0, [.ref (a 4), .int (nI T.length)])), ((a 4), .inl (D.1 5, 40, .inl g1)), ((a 5), .inr (0, [.ref (a 6), .int (nI ((A.eraseIdx (A.idxOf k)).length))])), ((a 6), .inl (D.1 5, 40, .inl x)), ((a 7), .inr (0, [.ref (a 8), .int (nI B.length)])), ((a 8), .inl (D.1 5, 40, .inl g3)), ((a 9), .inr (2, [.ref (a 10)])), ((a 10), .inl (D.1 5, 40, .inl g4)), ((a 11), .inr (2, [.ref (a 12)])), ((a 12), .inl (D.1 5, 40, .inl g5)), ((a 13), .inr (2, [.ref (a 14)])), ((a 14), .inl (D.1 5, 40, .inl g6))] dX1_recall_54 rfl rfl inlX1 tyX1_ok nmX1 (by decide) wq_6_8 rfl rfl rfl (Nat.le_of_ble_eq_true rfl) rfl ?_
    refine k_goto hC 57 114 dX1_recall_57 (by decide) ?_
    exact k_vret hC hE 114 ((N, T, (A.eraseIdx (A.idxOf k)), B, to, pi, fe, pl, min pl (go + tn B A), hi, mi, re + 1, lo), (g0, g1, x, g3, g4, g5, g6)) dX1_recall_114 (⟨rfl, by rw [rcl, if_pos e2], r0, r1, hx, r3, r4, r5, r6⟩) rfl ⟨Nat.zero_le _, Nat.zero_le _⟩
set_option maxHeartbeats 4000000 in
set_option maxRecDepth 100000 in
/-- placeNewJar -/
theorem c_X1_placeNewJar0 (l : Launch) (D : va_G) (a : Nat → Nat) (N T A B : List Nat) (to pi : Nat → Nat) (fe : Nat → Int32) (pl go : Nat) (hi mi re lo : Int32) (g0 g1 g2 g3 g4 g5 g6 : Nat → Int32) (k o : Nat) (hS : SR (N, T, A, B, to, pi, fe, pl, go, hi, mi, re, lo) (g0, g1, g2, g3, g4, g5, g6)) (hW : WF (N, T, A, B, to, pi, fe, pl, go, hi, mi, re, lo)) (hk : k < 40) (ho : o = 1) : MU l yX1_placeNewJar cX1_placeNewJar 3 none 1 22 D [.ref (a 0), .int (nI k), .ref (a 1)] [((a 0), .inr (1, [.ref (a 1), .ref (a 3), .ref (a 5), .ref (a 7), .ref (a 9), .ref (a 11), .ref (a 13), .int (nI pl), .int (nI go), .int hi, .int mi, .int re, .int lo])), ((a 1), .inr (0, [.ref (a 2), .int (nI N.length)])), ((a 2), .inl (D.1 5, 40, .inl g0)), ((a 3), .inr (0, [.ref (a 4), .int (nI T.length)])), ((a 4), .inl (D.1 5, 40, .inl g1)), ((a 5), .inr (0, [.ref (a 6), .int (nI A.length)])), ((a 6), .inl (D.1 5, 40, .inl g2)), ((a 7), .inr (0, [.ref (a 8), .int (nI B.length)])), ((a 8), .inl (D.1 5, 40, .inl g3)), ((a 9), .inr (2, [.ref (a 10)])), ((a 10), .inl (D.1 5, 40, .inl g4)), ((a 11), .inr (2, [.ref (a 12)])), ((a 12), .inl (D.1 5, 40, .inl g5)), ((a 13), .inr (2, [.ref (a 14)])), ((a 14), .inl (D.1 5, 40, .inl g6))] (fun v (u : PS × PG) => v = none ∧ u.1 = plc (N, T, A, B, to, pi, fe, pl, go, hi, mi, re, lo) k o ∧ SR u.1 u.2) (fun u => wSt D a u.1 u.2) 0 0 := by
  refine MU.enter (by decide) [(0, .ref (a 0)), (1, .int (nI k)), (2, .ref (a 1))] rfl (Nat.le_of_ble_eq_true rfl) (fun G hC hE => ?_)
  have hC : CX G D cX1_placeNewJar RX1 3 := hC
  have hS0 := hS
  have hW0 := hW
  obtain ⟨r0, r1, r2, r3, r4, r5, r6⟩ := hS
  obtain ⟨kN, kT, kA, kB, nd, len, lA, lB, p2, p12, g12, t1, p9⟩ := hW
  refine k_aload_n hC 0 dX1_placeNewJar_0 rfl ?_
  refine k_iload_n hC 1 dX1_placeNewJar_1 rfl ?_
  refine k_callV hC 2 1 [1, 2] (fun x => [((a 0), .inr (1, [.ref (a 1), .ref (a 3), .ref (a 5), .ref (a 7), .ref (a 9), .ref (a 11), .ref (a 13), .int (nI pl), .int (nI go), .int hi, .int mi, .int re, .int lo])), ((a 1), .inr (0, [.ref (a 2), .int (nI ((N ++ [k]).length))])), ((a 2), .inl (D.1 5, 40, .inl x)), ((a 3), .inr (0, [.ref (a 4), .int (nI T.length)])), ((a 4), .inl (D.1 5, 40, .inl g1)), ((a 5), .inr (0, [.ref (a 6), .int (nI A.length)])), ((a 6), .inl (D.1 5, 40, .inl g2)), ((a 7), .inr (0, [.ref (a 8), .int (nI B.length)])), ((a 8), .inl (D.1 5, 40, .inl g3)), ((a 9), .inr (2, [.ref (a 10)])), ((a 10), .inl (D.1 5, 40, .inl g4)), ((a 11), .inr (2, [.ref (a 12)])), ((a 12), .inl (D.1 5, 40, .inl g5)), ((a 13), .inr (2, [.ref (a 14)])), ((a 14), .inl (D.1 5, 40, .inl g6))]) (c_X0_append l D (a 1) (a 2) N g0 k r0 (by omega) hk) cw_RX1_134 dX1_placeNewJar_2 ⟨Nat.le_of_ble_eq_true rfl, Nat.le_of_ble_eq_true rfl, Nat.le_of_ble_eq_true rfl, Nat.le_of_ble_eq_true rfl⟩ rfl (Nat.le_of_ble_eq_true rfl) rfl rfl rfl (by decide) rfl (fun _ => Nat.le_of_ble_eq_true rfl) (fun _ => rfl) _ rfl (fun v x hp => ?_)
  obtain ⟨rfl, hx⟩ := hp
  refine KJ.eqs (st' := []) rfl ?_
  refine k_aload_n hC 5 dX1_placeNewJar_5 rfl ?_
  refine k_getf hC 6 0 4 dX1_placeNewJar_6 rfl rfl inlX1 (by decide) wq_2_8 rfl ?_
  refine k_iload_n hC 9 dX1_placeNewJar_9 rfl ?_
  refine k_iconst hC 10 dX1_placeNewJar_10 (nI 0) (by decide) ?_
  refine k_callV hC 11 9 [9, 10] (fun _ => [((a 0), .inr (1, [.ref (a 1), .ref (a 3), .ref (a 5), .ref (a 7), .ref (a 9), .ref (a 11), .ref (a 13), .int (nI pl), .int (nI go), .int hi, .int mi, .int re, .int lo])), ((a 1), .inr (0, [.ref (a 2), .int (nI ((N ++ [k]).length))])), ((a 2), .inl (D.1 5, 40, .inl x)), ((a 3), .inr (0, [.ref (a 4), .int (nI T.length)])), ((a 4), .inl (D.1 5, 40, .inl g1)), ((a 5), .inr (0, [.ref (a 6), .int (nI A.length)])), ((a 6), .inl (D.1 5, 40, .inl g2)), ((a 7), .inr (0, [.ref (a 8), .int (nI B.length)])), ((a 8), .inl (D.1 5, 40, .inl g3)), ((a 9), .inr (2, [.ref (a 10)])), ((a 10), .inl (D.1 5, 40, .inl (upd g4 k (nI 0)))), ((a 11), .inr (2, [.ref (a 12)])), ((a 12), .inl (D.1 5, 40, .inl g5)), ((a 13), .inr (2, [.ref (a 14)])), ((a 14), .inl (D.1 5, 40, .inl g6))]) (c_X2_put l D (a 9) (a 10) g4 k (nI 0) hk) cw_RX1_97 dX1_placeNewJar_11 ⟨Nat.le_of_ble_eq_true rfl, Nat.le_of_ble_eq_true rfl, Nat.le_of_ble_eq_true rfl, Nat.le_of_ble_eq_true rfl⟩ rfl (Nat.le_of_ble_eq_true rfl) rfl rfl rfl (by decide) rfl (fun _ => Nat.le_of_ble_eq_true rfl) (fun _ => rfl) _ rfl (fun v _ hp => ?_)
  obtain rfl := hp
  refine KJ.eqs (st' := []) rfl ?_
  refine k_aload_n hC 14 dX1_placeNewJar_14 rfl ?_
  refine k_getf hC 15 0 5 dX1_placeNewJar_15 rfl rfl inlX1 (by decide) wq_2_9 rfl ?_
  refine k_iload_n hC 18 dX1_placeNewJar_18 rfl ?_
  refine k_iconst hC 19 dX1_placeNewJar_19 (nI 0) (by decide) ?_
  refine k_callV hC 20 11 [11, 12] (fun _ => [((a 0), .inr (1, [.ref (a 1), .ref (a 3), .ref (a 5), .ref (a 7), .ref (a 9), .ref (a 11), .ref (a 13), .int (nI pl), .int (nI go), .int hi, .int mi, .int re, .int lo])), ((a 1), .inr (0, [.ref (a 2), .int (nI ((N ++ [k]).length))])), ((a 2), .inl (D.1 5, 40, .inl x)), ((a 3), .inr (0, [.ref (a 4), .int (nI T.length)])), ((a 4), .inl (D.1 5, 40, .inl g1)), ((a 5), .inr (0, [.ref (a 6), .int (nI A.length)])), ((a 6), .inl (D.1 5, 40, .inl g2)), ((a 7), .inr (0, [.ref (a 8), .int (nI B.length)])), ((a 8), .inl (D.1 5, 40, .inl g3)), ((a 9), .inr (2, [.ref (a 10)])), ((a 10), .inl (D.1 5, 40, .inl (upd g4 k (nI 0)))), ((a 11), .inr (2, [.ref (a 12)])), ((a 12), .inl (D.1 5, 40, .inl (upd g5 k (nI 0)))), ((a 13), .inr (2, [.ref (a 14)])), ((a 14), .inl (D.1 5, 40, .inl g6))]) (c_X2_put l D (a 11) (a 12) g5 k (nI 0) hk) cw_RX1_97 dX1_placeNewJar_20 ⟨Nat.le_of_ble_eq_true rfl, Nat.le_of_ble_eq_true rfl, Nat.le_of_ble_eq_true rfl, Nat.le_of_ble_eq_true rfl⟩ rfl (Nat.le_of_ble_eq_true rfl) rfl rfl rfl (by decide) rfl (fun _ => Nat.le_of_ble_eq_true rfl) (fun _ => rfl) _ rfl (fun v _ hp => ?_)
  obtain rfl := hp
  refine KJ.eqs (st' := []) rfl ?_
  refine k_aload_n hC 23 dX1_placeNewJar_23 rfl ?_
  refine k_getf hC 24 0 6 dX1_placeNewJar_24 rfl rfl inlX1 (by decide) wq_2_10 rfl ?_
  refine k_iload_n hC 27 dX1_placeNewJar_27 rfl ?_
  refine k_iconst hC 28 dX1_placeNewJar_28 (nI 1) (by decide) ?_
  refine k_callV hC 29 13 [13, 14] (fun _ => [((a 0), .inr (1, [.ref (a 1), .ref (a 3), .ref (a 5), .ref (a 7), .ref (a 9), .ref (a 11), .ref (a 13), .int (nI pl), .int (nI go), .int hi, .int mi, .int re, .int lo])), ((a 1), .inr (0, [.ref (a 2), .int (nI ((N ++ [k]).length))])), ((a 2), .inl (D.1 5, 40, .inl x)), ((a 3), .inr (0, [.ref (a 4), .int (nI T.length)])), ((a 4), .inl (D.1 5, 40, .inl g1)), ((a 5), .inr (0, [.ref (a 6), .int (nI A.length)])), ((a 6), .inl (D.1 5, 40, .inl g2)), ((a 7), .inr (0, [.ref (a 8), .int (nI B.length)])), ((a 8), .inl (D.1 5, 40, .inl g3)), ((a 9), .inr (2, [.ref (a 10)])), ((a 10), .inl (D.1 5, 40, .inl (upd g4 k (nI 0)))), ((a 11), .inr (2, [.ref (a 12)])), ((a 12), .inl (D.1 5, 40, .inl (upd g5 k (nI 0)))), ((a 13), .inr (2, [.ref (a 14)])), ((a 14), .inl (D.1 5, 40, .inl (upd g6 k (nI 1))))]) (c_X2_put l D (a 13) (a 14) g6 k (nI 1) hk) cw_RX1_97 dX1_placeNewJar_29 ⟨Nat.le_of_ble_eq_true rfl, Nat.le_of_ble_eq_true rfl, Nat.le_of_ble_eq_true rfl, Nat.le_of_ble_eq_true rfl⟩ rfl (Nat.le_of_ble_eq_true rfl) rfl rfl rfl (by decide) rfl (fun _ => Nat.le_of_ble_eq_true rfl) (fun _ => rfl) _ rfl (fun v _ hp => ?_)
  obtain rfl := hp
  refine KJ.eqs (st' := []) rfl ?_
  exact k_vret hC hE 32 (((N ++ [k]), T, A, B, va_up to k 0, va_up pi k 0, va_up fe k 1, pl, go, hi, mi, re, lo), (x, g1, g2, g3, upd g4 k (nI 0), upd g5 k (nI 0), upd g6 k (nI 1))) dX1_placeNewJar_32 (⟨rfl, by rw [plc, if_pos ho], hx, r1, r2, r3, tup r4 k 0, tup r5 k 0, tupI r6 k 1⟩) rfl ⟨Nat.zero_le _, Nat.zero_le _⟩
set_option maxHeartbeats 4000000 in
set_option maxRecDepth 100000 in
/-- placeNewJar -/
theorem c_X1_placeNewJar1 (l : Launch) (D : va_G) (a : Nat → Nat) (N T A B : List Nat) (to pi : Nat → Nat) (fe : Nat → Int32) (pl go : Nat) (hi mi re lo : Int32) (g0 g1 g2 g3 g4 g5 g6 : Nat → Int32) (k o : Nat) (hS : SR (N, T, A, B, to, pi, fe, pl, go, hi, mi, re, lo) (g0, g1, g2, g3, g4, g5, g6)) (hW : WF (N, T, A, B, to, pi, fe, pl, go, hi, mi, re, lo)) (hk : k < 40) (ho : ¬ o = 1) : MU l yX1_placeNewJar cX1_placeNewJar 3 none 1 22 D [.ref (a 0), .int (nI k), .ref (a 3)] [((a 0), .inr (1, [.ref (a 1), .ref (a 3), .ref (a 5), .ref (a 7), .ref (a 9), .ref (a 11), .ref (a 13), .int (nI pl), .int (nI go), .int hi, .int mi, .int re, .int lo])), ((a 1), .inr (0, [.ref (a 2), .int (nI N.length)])), ((a 2), .inl (D.1 5, 40, .inl g0)), ((a 3), .inr (0, [.ref (a 4), .int (nI T.length)])), ((a 4), .inl (D.1 5, 40, .inl g1)), ((a 5), .inr (0, [.ref (a 6), .int (nI A.length)])), ((a 6), .inl (D.1 5, 40, .inl g2)), ((a 7), .inr (0, [.ref (a 8), .int (nI B.length)])), ((a 8), .inl (D.1 5, 40, .inl g3)), ((a 9), .inr (2, [.ref (a 10)])), ((a 10), .inl (D.1 5, 40, .inl g4)), ((a 11), .inr (2, [.ref (a 12)])), ((a 12), .inl (D.1 5, 40, .inl g5)), ((a 13), .inr (2, [.ref (a 14)])), ((a 14), .inl (D.1 5, 40, .inl g6))] (fun v (u : PS × PG) => v = none ∧ u.1 = plc (N, T, A, B, to, pi, fe, pl, go, hi, mi, re, lo) k o ∧ SR u.1 u.2) (fun u => wSt D a u.1 u.2) 0 0 := by
  refine MU.enter (by decide) [(0, .ref (a 0)), (1, .int (nI k)), (2, .ref (a 3))] rfl (Nat.le_of_ble_eq_true rfl) (fun G hC hE => ?_)
  have hC : CX G D cX1_placeNewJar RX1 3 := hC
  have hS0 := hS
  have hW0 := hW
  obtain ⟨r0, r1, r2, r3, r4, r5, r6⟩ := hS
  obtain ⟨kN, kT, kA, kB, nd, len, lA, lB, p2, p12, g12, t1, p9⟩ := hW
  refine k_aload_n hC 0 dX1_placeNewJar_0 rfl ?_
  refine k_iload_n hC 1 dX1_placeNewJar_1 rfl ?_
  refine k_callV hC 2 3 [3, 4] (fun x => [((a 0), .inr (1, [.ref (a 1), .ref (a 3), .ref (a 5), .ref (a 7), .ref (a 9), .ref (a 11), .ref (a 13), .int (nI pl), .int (nI go), .int hi, .int mi, .int re, .int lo])), ((a 1), .inr (0, [.ref (a 2), .int (nI N.length)])), ((a 2), .inl (D.1 5, 40, .inl g0)), ((a 3), .inr (0, [.ref (a 4), .int (nI ((T ++ [k]).length))])), ((a 4), .inl (D.1 5, 40, .inl x)), ((a 5), .inr (0, [.ref (a 6), .int (nI A.length)])), ((a 6), .inl (D.1 5, 40, .inl g2)), ((a 7), .inr (0, [.ref (a 8), .int (nI B.length)])), ((a 8), .inl (D.1 5, 40, .inl g3)), ((a 9), .inr (2, [.ref (a 10)])), ((a 10), .inl (D.1 5, 40, .inl g4)), ((a 11), .inr (2, [.ref (a 12)])), ((a 12), .inl (D.1 5, 40, .inl g5)), ((a 13), .inr (2, [.ref (a 14)])), ((a 14), .inl (D.1 5, 40, .inl g6))]) (c_X0_append l D (a 3) (a 4) T g1 k r1 (by omega) hk) cw_RX1_134 dX1_placeNewJar_2 ⟨Nat.le_of_ble_eq_true rfl, Nat.le_of_ble_eq_true rfl, Nat.le_of_ble_eq_true rfl, Nat.le_of_ble_eq_true rfl⟩ rfl (Nat.le_of_ble_eq_true rfl) rfl rfl rfl (by decide) rfl (fun _ => Nat.le_of_ble_eq_true rfl) (fun _ => rfl) _ rfl (fun v x hp => ?_)
  obtain ⟨rfl, hx⟩ := hp
  refine KJ.eqs (st' := []) rfl ?_
  refine k_aload_n hC 5 dX1_placeNewJar_5 rfl ?_
  refine k_getf hC 6 0 4 dX1_placeNewJar_6 rfl rfl inlX1 (by decide) wq_2_8 rfl ?_
  refine k_iload_n hC 9 dX1_placeNewJar_9 rfl ?_
  refine k_iconst hC 10 dX1_placeNewJar_10 (nI 0) (by decide) ?_
  refine k_callV hC 11 9 [9, 10] (fun _ => [((a 0), .inr (1, [.ref (a 1), .ref (a 3), .ref (a 5), .ref (a 7), .ref (a 9), .ref (a 11), .ref (a 13), .int (nI pl), .int (nI go), .int hi, .int mi, .int re, .int lo])), ((a 1), .inr (0, [.ref (a 2), .int (nI N.length)])), ((a 2), .inl (D.1 5, 40, .inl g0)), ((a 3), .inr (0, [.ref (a 4), .int (nI ((T ++ [k]).length))])), ((a 4), .inl (D.1 5, 40, .inl x)), ((a 5), .inr (0, [.ref (a 6), .int (nI A.length)])), ((a 6), .inl (D.1 5, 40, .inl g2)), ((a 7), .inr (0, [.ref (a 8), .int (nI B.length)])), ((a 8), .inl (D.1 5, 40, .inl g3)), ((a 9), .inr (2, [.ref (a 10)])), ((a 10), .inl (D.1 5, 40, .inl (upd g4 k (nI 0)))), ((a 11), .inr (2, [.ref (a 12)])), ((a 12), .inl (D.1 5, 40, .inl g5)), ((a 13), .inr (2, [.ref (a 14)])), ((a 14), .inl (D.1 5, 40, .inl g6))]) (c_X2_put l D (a 9) (a 10) g4 k (nI 0) hk) cw_RX1_97 dX1_placeNewJar_11 ⟨Nat.le_of_ble_eq_true rfl, Nat.le_of_ble_eq_true rfl, Nat.le_of_ble_eq_true rfl, Nat.le_of_ble_eq_true rfl⟩ rfl (Nat.le_of_ble_eq_true rfl) rfl rfl rfl (by decide) rfl (fun _ => Nat.le_of_ble_eq_true rfl) (fun _ => rfl) _ rfl (fun v _ hp => ?_)
  obtain rfl := hp
  refine KJ.eqs (st' := []) rfl ?_
  refine k_aload_n hC 14 dX1_placeNewJar_14 rfl ?_
  refine k_getf hC 15 0 5 dX1_placeNewJar_15 rfl rfl inlX1 (by decide) wq_2_9 rfl ?_
  refine k_iload_n hC 18 dX1_placeNewJar_18 rfl ?_
  refine k_iconst hC 19 dX1_placeNewJar_19 (nI 0) (by decide) ?_
  refine k_callV hC 20 11 [11, 12] (fun _ => [((a 0), .inr (1, [.ref (a 1), .ref (a 3), .ref (a 5), .ref (a 7), .ref (a 9), .ref (a 11), .ref (a 13), .int (nI pl), .int (nI go), .int hi, .int mi, .int re, .int lo])), ((a 1), .inr (0, [.ref (a 2), .int (nI N.length)])), ((a 2), .inl (D.1 5, 40, .inl g0)), ((a 3), .inr (0, [.ref (a 4), .int (nI ((T ++ [k]).length))])), ((a 4), .inl (D.1 5, 40, .inl x)), ((a 5), .inr (0, [.ref (a 6), .int (nI A.length)])), ((a 6), .inl (D.1 5, 40, .inl g2)), ((a 7), .inr (0, [.ref (a 8), .int (nI B.length)])), ((a 8), .inl (D.1 5, 40, .inl g3)), ((a 9), .inr (2, [.ref (a 10)])), ((a 10), .inl (D.1 5, 40, .inl (upd g4 k (nI 0)))), ((a 11), .inr (2, [.ref (a 12)])), ((a 12), .inl (D.1 5, 40, .inl (upd g5 k (nI 0)))), ((a 13), .inr (2, [.ref (a 14)])), ((a 14), .inl (D.1 5, 40, .inl g6))]) (c_X2_put l D (a 11) (a 12) g5 k (nI 0) hk) cw_RX1_97 dX1_placeNewJar_20 ⟨Nat.le_of_ble_eq_true rfl, Nat.le_of_ble_eq_true rfl, Nat.le_of_ble_eq_true rfl, Nat.le_of_ble_eq_true rfl⟩ rfl (Nat.le_of_ble_eq_true rfl) rfl rfl rfl (by decide) rfl (fun _ => Nat.le_of_ble_eq_true rfl) (fun _ => rfl) _ rfl (fun v _ hp => ?_)
  obtain rfl := hp
  refine KJ.eqs (st' := []) rfl ?_
  refine k_aload_n hC 23 dX1_placeNewJar_23 rfl ?_
  refine k_getf hC 24 0 6 dX1_placeNewJar_24 rfl rfl inlX1 (by decide) wq_2_10 rfl ?_
  refine k_iload_n hC 27 dX1_placeNewJar_27 rfl ?_
  refine k_iconst hC 28 dX1_placeNewJar_28 (nI 1) (by decide) ?_
  refine k_callV hC 29 13 [13, 14] (fun _ => [((a 0), .inr (1, [.ref (a 1), .ref (a 3), .ref (a 5), .ref (a 7), .ref (a 9), .ref (a 11), .ref (a 13), .int (nI pl), .int (nI go), .int hi, .int mi, .int re, .int lo])), ((a 1), .inr (0, [.ref (a 2), .int (nI N.length)])), ((a 2), .inl (D.1 5, 40, .inl g0)), ((a 3), .inr (0, [.ref (a 4), .int (nI ((T ++ [k]).length))])), ((a 4), .inl (D.1 5, 40, .inl x)), ((a 5), .inr (0, [.ref (a 6), .int (nI A.length)])), ((a 6), .inl (D.1 5, 40, .inl g2)), ((a 7), .inr (0, [.ref (a 8), .int (nI B.length)])), ((a 8), .inl (D.1 5, 40, .inl g3)), ((a 9), .inr (2, [.ref (a 10)])), ((a 10), .inl (D.1 5, 40, .inl (upd g4 k (nI 0)))), ((a 11), .inr (2, [.ref (a 12)])), ((a 12), .inl (D.1 5, 40, .inl (upd g5 k (nI 0)))), ((a 13), .inr (2, [.ref (a 14)])), ((a 14), .inl (D.1 5, 40, .inl (upd g6 k (nI 1))))]) (c_X2_put l D (a 13) (a 14) g6 k (nI 1) hk) cw_RX1_97 dX1_placeNewJar_29 ⟨Nat.le_of_ble_eq_true rfl, Nat.le_of_ble_eq_true rfl, Nat.le_of_ble_eq_true rfl, Nat.le_of_ble_eq_true rfl⟩ rfl (Nat.le_of_ble_eq_true rfl) rfl rfl rfl (by decide) rfl (fun _ => Nat.le_of_ble_eq_true rfl) (fun _ => rfl) _ rfl (fun v _ hp => ?_)
  obtain rfl := hp
  refine KJ.eqs (st' := []) rfl ?_
  exact k_vret hC hE 32 ((N, (T ++ [k]), A, B, va_up to k 0, va_up pi k 0, va_up fe k 1, pl, go, hi, mi, re, lo), (g0, x, g2, g3, upd g4 k (nI 0), upd g5 k (nI 0), upd g6 k (nI 1))) dX1_placeNewJar_32 (⟨rfl, by rw [plc, if_neg ho], r0, hx, r2, r3, tup r4 k 0, tup r5 k 0, tupI r6 k 1⟩) rfl ⟨Nat.zero_le _, Nat.zero_le _⟩
set_option maxHeartbeats 4000000 in
set_option maxRecDepth 100000 in
/-- changePins -/
theorem c_X1_changePins (l : Launch) (D : va_G) (a : Nat → Nat) (N T A B : List Nat) (to pi : Nat → Nat) (fe : Nat → Int32) (pl go : Nat) (hi mi re lo : Int32) (g0 g1 g2 g3 g4 g5 g6 : Nat → Int32) (k x : Nat) (m : Int32) (hS : SR (N, T, A, B, to, pi, fe, pl, go, hi, mi, re, lo) (g0, g1, g2, g3, g4, g5, g6)) (hW : WF (N, T, A, B, to, pi, fe, pl, go, hi, mi, re, lo)) (hk : k < 40) (hx : nI (pi k) + m = nI x) : MU l yX1_changePins cX1_changePins 3 (some .int) 1 22 D [.ref (a 0), .int (nI k), .int m] [((a 0), .inr (1, [.ref (a 1), .ref (a 3), .ref (a 5), .ref (a 7), .ref (a 9), .ref (a 11), .ref (a 13), .int (nI pl), .int (nI go), .int hi, .int mi, .int re, .int lo])), ((a 1), .inr (0, [.ref (a 2), .int (nI N.length)])), ((a 2), .inl (D.1 5, 40, .inl g0)), ((a 3), .inr (0, [.ref (a 4), .int (nI T.length)])), ((a 4), .inl (D.1 5, 40, .inl g1)), ((a 5), .inr (0, [.ref (a 6), .int (nI A.length)])), ((a 6), .inl (D.1 5, 40, .inl g2)), ((a 7), .inr (0, [.ref (a 8), .int (nI B.length)])), ((a 8), .inl (D.1 5, 40, .inl g3)), ((a 9), .inr (2, [.ref (a 10)])), ((a 10), .inl (D.1 5, 40, .inl g4)), ((a 11), .inr (2, [.ref (a 12)])), ((a 12), .inl (D.1 5, 40, .inl g5)), ((a 13), .inr (2, [.ref (a 14)])), ((a 14), .inl (D.1 5, 40, .inl g6))] (fun v (u : PS × PG) => v = some (.int (nI x)) ∧ u.1 = (N, T, A, B, to, va_up pi k x, fe, pl, go, hi, mi, re, lo) ∧ SR u.1 u.2) (fun u => wSt D a u.1 u.2) 0 0 := by
  refine MU.enter (by decide) [(0, .ref (a 0)), (1, .int (nI k)), (2, .int m)] rfl (Nat.le_of_ble_eq_true rfl) (fun G hC hE => ?_)
  have hC : CX G D cX1_changePins RX1 3 := hC
  have hS0 := hS
  have hW0 := hW
  obtain ⟨r0, r1, r2, r3, r4, r5, r6⟩ := hS
  obtain ⟨kN, kT, kA, kB, nd, len, lA, lB, p2, p12, g12, t1, p9⟩ := hW
  refine k_aload_n hC 0 dX1_changePins_0 rfl ?_
  refine k_getf hC 1 0 5 dX1_changePins_1 rfl rfl inlX1 (by decide) wq_2_9 rfl ?_
  refine k_iload_n hC 4 dX1_changePins_4 rfl ?_
  refine k_aload_n hC 5 dX1_changePins_5 rfl ?_
  refine k_getf hC 6 0 5 dX1_changePins_6 rfl rfl inlX1 (by decide) wq_2_9 rfl ?_
  refine k_iload_n hC 9 dX1_changePins_9 rfl ?_
  refine k_callVr hC 10 11 [11, 12] (c_X2_of l D (a 11) (a 12) g5 k hk) cw_RX1_81 dX1_changePins_10 ⟨Nat.le_of_ble_eq_true rfl, Nat.le_of_ble_eq_true rfl, Nat.le_of_ble_eq_true rfl, Nat.le_of_ble_eq_true rfl⟩ rfl (Nat.le_of_ble_eq_true rfl) rfl rfl rfl (by decide) rfl (fun _ => Nat.le_of_ble_eq_true rfl) (fun _ => rfl) _ rfl (fun v u hp => ?_)
  obtain rfl := hp
  refine KJ.eqs (st' := .int (g5 k) :: .int (nI k) :: .ref (a 11) :: []) rfl ?_
  refine KJ.topi (y := (nI (pi k))) (r5 k hk) ?_
  refine k_iload_n hC 13 dX1_changePins_13 rfl ?_
  refine k_iadd hC 14 dX1_changePins_14 (KJ.topi (y := (nI x)) hx ?_)
  refine k_callV hC 15 11 [11, 12] (fun _ => [((a 0), .inr (1, [.ref (a 1), .ref (a 3), .ref (a 5), .ref (a 7), .ref (a 9), .ref (a 11), .ref (a 13), .int (nI pl), .int (nI go), .int hi, .int mi, .int re, .int lo])), ((a 1), .inr (0, [.ref (a 2), .int (nI N.length)])), ((a 2), .inl (D.1 5, 40, .inl g0)), ((a 3), .inr (0, [.ref (a 4), .int (nI T.length)])), ((a 4), .inl (D.1 5, 40, .inl g1)), ((a 5), .inr (0, [.ref (a 6), .int (nI A.length)])), ((a 6), .inl (D.1 5, 40, .inl g2)), ((a 7), .inr (0, [.ref (a 8), .int (nI B.length)])), ((a 8), .inl (D.1 5, 40, .inl g3)), ((a 9), .inr (2, [.ref (a 10)])), ((a 10), .inl (D.1 5, 40, .inl g4)), ((a 11), .inr (2, [.ref (a 12)])), ((a 12), .inl (D.1 5, 40, .inl (upd g5 k (nI x)))), ((a 13), .inr (2, [.ref (a 14)])), ((a 14), .inl (D.1 5, 40, .inl g6))]) (c_X2_put l D (a 11) (a 12) g5 k (nI x) hk) cw_RX1_97 dX1_changePins_15 ⟨Nat.le_of_ble_eq_true rfl, Nat.le_of_ble_eq_true rfl, Nat.le_of_ble_eq_true rfl, Nat.le_of_ble_eq_true rfl⟩ rfl (Nat.le_of_ble_eq_true rfl) rfl rfl rfl (by decide) rfl (fun _ => Nat.le_of_ble_eq_true rfl) (fun _ => rfl) _ rfl (fun v _ hp => ?_)
  obtain rfl := hp
  refine KJ.eqs (st' := []) rfl ?_
  refine k_aload_n hC 18 dX1_changePins_18 rfl ?_
  refine k_getf hC 19 0 5 dX1_changePins_19 rfl rfl inlX1 (by decide) wq_2_9 rfl ?_
  refine k_iload_n hC 22 dX1_changePins_22 rfl ?_
  refine k_callVr hC 23 11 [11, 12] (c_X2_of l D (a 11) (a 12) (upd g5 k (nI x)) k hk) cw_RX1_81 dX1_changePins_23 ⟨Nat.le_of_ble_eq_true rfl, Nat.le_of_ble_eq_true rfl, Nat.le_of_ble_eq_true rfl, Nat.le_of_ble_eq_true rfl⟩ rfl (Nat.le_of_ble_eq_true rfl) rfl rfl rfl (by decide) rfl (fun _ => Nat.le_of_ble_eq_true rfl) (fun _ => rfl) _ rfl (fun v u hp => ?_)
  obtain rfl := hp
  refine KJ.eqs (st' := .int (upd g5 k (nI x) k) :: []) rfl ?_
  refine KJ.topi (y := (nI x)) (upd_s _ _ _) ?_
  exact k_iret hC hE 26 ((N, T, A, B, to, va_up pi k x, fe, pl, go, hi, mi, re, lo), (g0, g1, g2, g3, g4, upd g5 k (nI x), g6)) dX1_changePins_26 rfl (⟨rfl, rfl, r0, r1, r2, r3, r4, tup r5 k x, r6⟩) rfl ⟨Nat.zero_le _, Nat.zero_le _⟩
set_option maxHeartbeats 4000000 in
set_option maxRecDepth 100000 in
/-- remove -/
theorem c_X1_remove (l : Launch) (D : va_G) (a : Nat → Nat) (N T A B : List Nat) (to pi : Nat → Nat) (fe : Nat → Int32) (pl go : Nat) (hi mi re lo : Int32) (g0 g1 g2 g3 g4 g5 g6 : Nat → Int32) (k : Nat) (hS : SR (N, T, A, B, to, pi, fe, pl, go, hi, mi, re, lo) (g0, g1, g2, g3, g4, g5, g6)) (hW : WF (N, T, A, B, to, pi, fe, pl, go, hi, mi, re, lo)) (hk : k < 40) : MU l yX1_remove cX1_remove 2 (some .int) 1 22 D [.ref (a 0), .int (nI k)] [((a 0), .inr (1, [.ref (a 1), .ref (a 3), .ref (a 5), .ref (a 7), .ref (a 9), .ref (a 11), .ref (a 13), .int (nI pl), .int (nI go), .int hi, .int mi, .int re, .int lo])), ((a 1), .inr (0, [.ref (a 2), .int (nI N.length)])), ((a 2), .inl (D.1 5, 40, .inl g0)), ((a 3), .inr (0, [.ref (a 4), .int (nI T.length)])), ((a 4), .inl (D.1 5, 40, .inl g1)), ((a 5), .inr (0, [.ref (a 6), .int (nI A.length)])), ((a 6), .inl (D.1 5, 40, .inl g2)), ((a 7), .inr (0, [.ref (a 8), .int (nI B.length)])), ((a 8), .inl (D.1 5, 40, .inl g3)), ((a 9), .inr (2, [.ref (a 10)])), ((a 10), .inl (D.1 5, 40, .inl g4)), ((a 11), .inr (2, [.ref (a 12)])), ((a 12), .inl (D.1 5, 40, .inl g5)), ((a 13), .inr (2, [.ref (a 14)])), ((a 14), .inl (D.1 5, 40, .inl g6))] (fun v (u : PS × PG) => v = some (.int (fe k)) ∧ u.1 = (ea N k, ea T k, A, B, to, pi, fe, pl, go, hi, mi, re, lo) ∧ SR u.1 u.2) (fun u => wSt D a u.1 u.2) 0 0 := by
  refine MU.enter (by decide) [(0, .ref (a 0)), (1, .int (nI k))] rfl (Nat.le_of_ble_eq_true rfl) (fun G hC hE => ?_)
  have hC : CX G D cX1_remove RX1 2 := hC
  have hS0 := hS
  have hW0 := hW
  obtain ⟨r0, r1, r2, r3, r4, r5, r6⟩ := hS
  obtain ⟨kN, kT, kA, kB, nd, len, lA, lB, p2, p12, g12, t1, p9⟩ := hW
  refine k_aload_n hC 0 dX1_remove_0 rfl ?_
  refine k_getf hC 1 0 0 dX1_remove_1 rfl rfl inlX1 (by decide) wq_2_1 rfl ?_
  refine k_aload_n hC 4 dX1_remove_4 rfl ?_
  refine k_getf hC 5 0 0 dX1_remove_5 rfl rfl inlX1 (by decide) wq_2_1 rfl ?_
  refine k_iload_n hC 8 dX1_remove_8 rfl ?_
  refine k_callVr hC 9 1 [1, 2] (c_X0_placeOf l D (a 1) (a 2) N g0 k r0 (by omega) kN hk) cw_RX1_124 dX1_remove_9 ⟨Nat.le_of_ble_eq_true rfl, Nat.le_of_ble_eq_true rfl, Nat.le_of_ble_eq_true rfl, Nat.le_of_ble_eq_true rfl⟩ rfl (Nat.le_of_ble_eq_true rfl) rfl rfl rfl (by decide) rfl (fun _ => Nat.le_of_ble_eq_true rfl) (fun _ => rfl) _ rfl (fun v u hp => ?_)
  obtain rfl := hp
  refine KJ.eqs (st' := .int (ixv N k) :: .ref (a 1) :: []) rfl ?_
  refine k_callV hC 12 1 [1, 2] (fun x0 => [((a 0), .inr (1, [.ref (a 1), .ref (a 3), .ref (a 5), .ref (a 7), .ref (a 9), .ref (a 11), .ref (a 13), .int (nI pl), .int (nI go), .int hi, .int mi, .int re, .int lo])), ((a 1), .inr (0, [.ref (a 2), .int (nI ((ea N k).length))])), ((a 2), .inl (D.1 5, 40, .inl x0)), ((a 3), .inr (0, [.ref (a 4), .int (nI T.length)])), ((a 4), .inl (D.1 5, 40, .inl g1)), ((a 5), .inr (0, [.ref (a 6), .int (nI A.length)])), ((a 6), .inl (D.1 5, 40, .inl g2)), ((a 7), .inr (0, [.ref (a 8), .int (nI B.length)])), ((a 8), .inl (D.1 5, 40, .inl g3)), ((a 9), .inr (2, [.ref (a 10)])), ((a 10), .inl (D.1 5, 40, .inl g4)), ((a 11), .inr (2, [.ref (a 12)])), ((a 12), .inl (D.1 5, 40, .inl g5)), ((a 13), .inr (2, [.ref (a 14)])), ((a 14), .inl (D.1 5, 40, .inl g6))]) (c_X0_takeOut_ix l D (a 1) (a 2) N g0 k r0 (by omega)) cw_RX1_127 dX1_remove_12 ⟨Nat.le_of_ble_eq_true rfl, Nat.le_of_ble_eq_true rfl, Nat.le_of_ble_eq_true rfl, Nat.le_of_ble_eq_true rfl⟩ rfl (Nat.le_of_ble_eq_true rfl) rfl rfl rfl (by decide) rfl (fun _ => Nat.le_of_ble_eq_true rfl) (fun _ => rfl) _ rfl (fun v x0 hp => ?_)
  obtain ⟨rfl, hx0⟩ := hp
  refine KJ.eqs (st' := []) rfl ?_
  refine k_aload_n hC 15 dX1_remove_15 rfl ?_
  refine k_getf hC 16 0 1 dX1_remove_16 rfl rfl inlX1 (by decide) wq_2_2 rfl ?_
  refine k_aload_n hC 19 dX1_remove_19 rfl ?_
  refine k_getf hC 20 0 1 dX1_remove_20 rfl rfl inlX1 (by decide) wq_2_2 rfl ?_
  refine k_iload_n hC 23 dX1_remove_23 rfl ?_
  refine k_callVr hC 24 3 [3, 4] (c_X0_placeOf l D (a 3) (a 4) T g1 k r1 (by omega) kT hk) cw_RX1_124 dX1_remove_24 ⟨Nat.le_of_ble_eq_true rfl, Nat.le_of_ble_eq_true rfl, Nat.le_of_ble_eq_true rfl, Nat.le_of_ble_eq_true rfl⟩ rfl (Nat.le_of_ble_eq_true rfl) rfl rfl rfl (by decide) rfl (fun _ => Nat.le_of_ble_eq_true rfl) (fun _ => rfl) _ rfl (fun v u hp => ?_)
  obtain rfl := hp
  refine KJ.eqs (st' := .int (ixv T k) :: .ref (a 3) :: []) rfl ?_
  refine k_callV hC 27 3 [3, 4] (fun x1 => [((a 0), .inr (1, [.ref (a 1), .ref (a 3), .ref (a 5), .ref (a 7), .ref (a 9), .ref (a 11), .ref (a 13), .int (nI pl), .int (nI go), .int hi, .int mi, .int re, .int lo])), ((a 1), .inr (0, [.ref (a 2), .int (nI ((ea N k).length))])), ((a 2), .inl (D.1 5, 40, .inl x0)), ((a 3), .inr (0, [.ref (a 4), .int (nI ((ea T k).length))])), ((a 4), .inl (D.1 5, 40, .inl x1)), ((a 5), .inr (0, [.ref (a 6), .int (nI A.length)])), ((a 6), .inl (D.1 5, 40, .inl g2)), ((a 7), .inr (0, [.ref (a 8), .int (nI B.length)])), ((a 8), .inl (D.1 5, 40, .inl g3)), ((a 9), .inr (2, [.ref (a 10)])), ((a 10), .inl (D.1 5, 40, .inl g4)), ((a 11), .inr (2, [.ref (a 12)])), ((a 12), .inl (D.1 5, 40, .inl g5)), ((a 13), .inr (2, [.ref (a 14)])), ((a 14), .inl (D.1 5, 40, .inl g6))]) (c_X0_takeOut_ix l D (a 3) (a 4) T g1 k r1 (by omega)) cw_RX1_127 dX1_remove_27 ⟨Nat.le_of_ble_eq_true rfl, Nat.le_of_ble_eq_true rfl, Nat.le_of_ble_eq_true rfl, Nat.le_of_ble_eq_true rfl⟩ rfl (Nat.le_of_ble_eq_true rfl) rfl rfl rfl (by decide) rfl (fun _ => Nat.le_of_ble_eq_true rfl) (fun _ => rfl) _ rfl (fun v x1 hp => ?_)
  obtain ⟨rfl, hx1⟩ := hp
  refine KJ.eqs (st' := []) rfl ?_
  refine k_aload_n hC 30 dX1_remove_30 rfl ?_
  refine k_getf hC 31 0 6 dX1_remove_31 rfl rfl inlX1 (by decide) wq_2_10 rfl ?_
  refine k_iload_n hC 34 dX1_remove_34 rfl ?_
  refine k_callVr hC 35 13 [13, 14] (c_X2_of l D (a 13) (a 14) g6 k hk) cw_RX1_81 dX1_remove_35 ⟨Nat.le_of_ble_eq_true rfl, Nat.le_of_ble_eq_true rfl, Nat.le_of_ble_eq_true rfl, Nat.le_of_ble_eq_true rfl⟩ rfl (Nat.le_of_ble_eq_true rfl) rfl rfl rfl (by decide) rfl (fun _ => Nat.le_of_ble_eq_true rfl) (fun _ => rfl) _ rfl (fun v u hp => ?_)
  obtain rfl := hp
  refine KJ.eqs (st' := .int (g6 k) :: []) rfl ?_
  refine KJ.topi (y := (fe k)) (r6 k hk) ?_
  exact k_iret hC hE 38 (((ea N k), (ea T k), A, B, to, pi, fe, pl, go, hi, mi, re, lo), (x0, x1, g2, g3, g4, g5, g6)) dX1_remove_38 rfl (⟨rfl, rfl, hx0, hx1, r2, r3, r4, r5, r6⟩) rfl ⟨Nat.zero_le _, Nat.zero_le _⟩
set_option maxHeartbeats 4000000 in
set_option maxRecDepth 100000 in
/-- become -/
theorem c_X1_become (l : Launch) (D : va_G) (a : Nat → Nat) (N T A B : List Nat) (to pi : Nat → Nat) (fe : Nat → Int32) (pl go : Nat) (hi mi re lo : Int32) (g0 g1 g2 g3 g4 g5 g6 : Nat → Int32) (b : Nat → Nat) (N2 T2 A2 B2 : List Nat) (to2 pi2 : Nat → Nat) (fe2 : Nat → Int32) (pl2 go2 : Nat) (hi2 mi2 re2 lo2 : Int32) (m0 m1 m2 m3 m4 m5 m6 : Nat → Int32) (hS : SR (N2, T2, A2, B2, to2, pi2, fe2, pl2, go2, hi2, mi2, re2, lo2) (m0, m1, m2, m3, m4, m5, m6)) (hW : WF (N2, T2, A2, B2, to2, pi2, fe2, pl2, go2, hi2, mi2, re2, lo2)) : MU l yX1_become cX1_become 2 none 1 22 D [.ref (a 0), .ref (b 0)] [((a 0), .inr (1, [.ref (a 1), .ref (a 3), .ref (a 5), .ref (a 7), .ref (a 9), .ref (a 11), .ref (a 13), .int (nI pl), .int (nI go), .int hi, .int mi, .int re, .int lo])), ((a 1), .inr (0, [.ref (a 2), .int (nI N.length)])), ((a 2), .inl (D.1 5, 40, .inl g0)), ((a 3), .inr (0, [.ref (a 4), .int (nI T.length)])), ((a 4), .inl (D.1 5, 40, .inl g1)), ((a 5), .inr (0, [.ref (a 6), .int (nI A.length)])), ((a 6), .inl (D.1 5, 40, .inl g2)), ((a 7), .inr (0, [.ref (a 8), .int (nI B.length)])), ((a 8), .inl (D.1 5, 40, .inl g3)), ((a 9), .inr (2, [.ref (a 10)])), ((a 10), .inl (D.1 5, 40, .inl g4)), ((a 11), .inr (2, [.ref (a 12)])), ((a 12), .inl (D.1 5, 40, .inl g5)), ((a 13), .inr (2, [.ref (a 14)])), ((a 14), .inl (D.1 5, 40, .inl g6)), ((b 0), .inr (1, [.ref (b 1), .ref (b 3), .ref (b 5), .ref (b 7), .ref (b 9), .ref (b 11), .ref (b 13), .int (nI pl2), .int (nI go2), .int hi2, .int mi2, .int re2, .int lo2])), ((b 1), .inr (0, [.ref (b 2), .int (nI N2.length)])), ((b 2), .inl (D.1 5, 40, .inl m0)), ((b 3), .inr (0, [.ref (b 4), .int (nI T2.length)])), ((b 4), .inl (D.1 5, 40, .inl m1)), ((b 5), .inr (0, [.ref (b 6), .int (nI A2.length)])), ((b 6), .inl (D.1 5, 40, .inl m2)), ((b 7), .inr (0, [.ref (b 8), .int (nI B2.length)])), ((b 8), .inl (D.1 5, 40, .inl m3)), ((b 9), .inr (2, [.ref (b 10)])), ((b 10), .inl (D.1 5, 40, .inl m4)), ((b 11), .inr (2, [.ref (b 12)])), ((b 12), .inl (D.1 5, 40, .inl m5)), ((b 13), .inr (2, [.ref (b 14)])), ((b 14), .inl (D.1 5, 40, .inl m6))] (fun v (u : PG) => v = none ∧ SR (N2, T2, A2, B2, to2, pi2, fe2, pl2, go2, hi2, mi2, re2, lo2) u) (fun u => wSt D a (N2, T2, A2, B2, to2, pi2, fe2, pl2, go2, hi2, mi2, re2, lo2) u ++ [((b 0), .inr (1, [.ref (b 1), .ref (b 3), .ref (b 5), .ref (b 7), .ref (b 9), .ref (b 11), .ref (b 13), .int (nI pl2), .int (nI go2), .int hi2, .int mi2, .int re2, .int lo2])), ((b 1), .inr (0, [.ref (b 2), .int (nI N2.length)])), ((b 2), .inl (D.1 5, 40, .inl m0)), ((b 3), .inr (0, [.ref (b 4), .int (nI T2.length)])), ((b 4), .inl (D.1 5, 40, .inl m1)), ((b 5), .inr (0, [.ref (b 6), .int (nI A2.length)])), ((b 6), .inl (D.1 5, 40, .inl m2)), ((b 7), .inr (0, [.ref (b 8), .int (nI B2.length)])), ((b 8), .inl (D.1 5, 40, .inl m3)), ((b 9), .inr (2, [.ref (b 10)])), ((b 10), .inl (D.1 5, 40, .inl m4)), ((b 11), .inr (2, [.ref (b 12)])), ((b 12), .inl (D.1 5, 40, .inl m5)), ((b 13), .inr (2, [.ref (b 14)])), ((b 14), .inl (D.1 5, 40, .inl m6))]) 0 0 := by
  refine MU.enter (by decide) [(0, .ref (a 0)), (1, .ref (b 0))] rfl (Nat.le_of_ble_eq_true rfl) (fun G hC hE => ?_)
  have hC : CX G D cX1_become RX1 2 := hC
  obtain ⟨r0, r1, r2, r3, r4, r5, r6⟩ := hS
  obtain ⟨kN, kT, kA, kB, nd, len, lA, lB, p2, p12, g12, t1, p9⟩ := hW
  refine k_aload_n hC 0 dX1_become_0 rfl ?_
  refine k_getf hC 1 0 0 dX1_become_1 rfl rfl inlX1 (by decide) wq_2_1 rfl ?_
  refine k_aload_n hC 4 dX1_become_4 rfl ?_
  refine k_getf hC 5 15 0 dX1_become_5 rfl rfl inlX1 (by decide) wq_2_1 rfl ?_
  refine k_callV hC 8 1 [1, 2, 16, 17] (fun x0 => [((a 0), .inr (1, [.ref (a 1), .ref (a 3), .ref (a 5), .ref (a 7), .ref (a 9), .ref (a 11), .ref (a 13), .int (nI pl), .int (nI go), .int hi, .int mi, .int re, .int lo])), ((a 1), .inr (0, [.ref (a 2), .int (nI N2.length)])), ((a 2), .inl (D.1 5, 40, .inl x0)), ((a 3), .inr (0, [.ref (a 4), .int (nI T.length)])), ((a 4), .inl (D.1 5, 40, .inl g1)), ((a 5), .inr (0, [.ref (a 6), .int (nI A.length)])), ((a 6), .inl (D.1 5, 40, .inl g2)), ((a 7), .inr (0, [.ref (a 8), .int (nI B.length)])), ((a 8), .inl (D.1 5, 40, .inl g3)), ((a 9), .inr (2, [.ref (a 10)])), ((a 10), .inl (D.1 5, 40, .inl g4)), ((a 11), .inr (2, [.ref (a 12)])), ((a 12), .inl (D.1 5, 40, .inl g5)), ((a 13), .inr (2, [.ref (a 14)])), ((a 14), .inl (D.1 5, 40, .inl g6)), ((b 0), .inr (1, [.ref (b 1), .ref (b 3), .ref (b 5), .ref (b 7), .ref (b 9), .ref (b 11), .ref (b 13), .int (nI pl2), .int (nI go2), .int hi2, .int mi2, .int re2, .int lo2])), ((b 1), .inr (0, [.ref (b 2), .int (nI N2.length)])), ((b 2), .inl (D.1 5, 40, .inl m0)), ((b 3), .inr (0, [.ref (b 4), .int (nI T2.length)])), ((b 4), .inl (D.1 5, 40, .inl m1)), ((b 5), .inr (0, [.ref (b 6), .int (nI A2.length)])), ((b 6), .inl (D.1 5, 40, .inl m2)), ((b 7), .inr (0, [.ref (b 8), .int (nI B2.length)])), ((b 8), .inl (D.1 5, 40, .inl m3)), ((b 9), .inr (2, [.ref (b 10)])), ((b 10), .inl (D.1 5, 40, .inl m4)), ((b 11), .inr (2, [.ref (b 12)])), ((b 12), .inl (D.1 5, 40, .inl m5)), ((b 13), .inr (2, [.ref (b 14)])), ((b 14), .inl (D.1 5, 40, .inl m6))]) (c_X0_become l D (a 1) (a 2) (b 1) (b 2) N N2 g0 m0 r0 (by omega)) cw_RX1_44 dX1_become_8 ⟨Nat.le_of_ble_eq_true rfl, Nat.le_of_ble_eq_true rfl, Nat.le_of_ble_eq_true rfl, Nat.le_of_ble_eq_true rfl⟩ rfl (Nat.le_of_ble_eq_true rfl) rfl rfl rfl (by decide) rfl (fun _ => Nat.le_of_ble_eq_true rfl) (fun _ => rfl) _ rfl (fun v x0 hp => ?_)
  obtain ⟨rfl, hx0⟩ := hp
  refine KJ.eqs (st' := []) rfl ?_
  refine k_aload_n hC 11 dX1_become_11 rfl ?_
  refine k_getf hC 12 0 1 dX1_become_12 rfl rfl inlX1 (by decide) wq_2_2 rfl ?_
  refine k_aload_n hC 15 dX1_become_15 rfl ?_
  refine k_getf hC 16 15 1 dX1_become_16 rfl rfl inlX1 (by decide) wq_2_2 rfl ?_
  refine k_callV hC 19 3 [3, 4, 18, 19] (fun x1 => [((a 0), .inr (1, [.ref (a 1), .ref (a 3), .ref (a 5), .ref (a 7), .ref (a 9), .ref (a 11), .ref (a 13), .int (nI pl), .int (nI go), .int hi, .int mi, .int re, .int lo])), ((a 1), .inr (0, [.ref (a 2), .int (nI N2.length)])), ((a 2), .inl (D.1 5, 40, .inl x0)), ((a 3), .inr (0, [.ref (a 4), .int (nI T2.length)])), ((a 4), .inl (D.1 5, 40, .inl x1)), ((a 5), .inr (0, [.ref (a 6), .int (nI A.length)])), ((a 6), .inl (D.1 5, 40, .inl g2)), ((a 7), .inr (0, [.ref (a 8), .int (nI B.length)])), ((a 8), .inl (D.1 5, 40, .inl g3)), ((a 9), .inr (2, [.ref (a 10)])), ((a 10), .inl (D.1 5, 40, .inl g4)), ((a 11), .inr (2, [.ref (a 12)])), ((a 12), .inl (D.1 5, 40, .inl g5)), ((a 13), .inr (2, [.ref (a 14)])), ((a 14), .inl (D.1 5, 40, .inl g6)), ((b 0), .inr (1, [.ref (b 1), .ref (b 3), .ref (b 5), .ref (b 7), .ref (b 9), .ref (b 11), .ref (b 13), .int (nI pl2), .int (nI go2), .int hi2, .int mi2, .int re2, .int lo2])), ((b 1), .inr (0, [.ref (b 2), .int (nI N2.length)])), ((b 2), .inl (D.1 5, 40, .inl m0)), ((b 3), .inr (0, [.ref (b 4), .int (nI T2.length)])), ((b 4), .inl (D.1 5, 40, .inl m1)), ((b 5), .inr (0, [.ref (b 6), .int (nI A2.length)])), ((b 6), .inl (D.1 5, 40, .inl m2)), ((b 7), .inr (0, [.ref (b 8), .int (nI B2.length)])), ((b 8), .inl (D.1 5, 40, .inl m3)), ((b 9), .inr (2, [.ref (b 10)])), ((b 10), .inl (D.1 5, 40, .inl m4)), ((b 11), .inr (2, [.ref (b 12)])), ((b 12), .inl (D.1 5, 40, .inl m5)), ((b 13), .inr (2, [.ref (b 14)])), ((b 14), .inl (D.1 5, 40, .inl m6))]) (c_X0_become l D (a 3) (a 4) (b 3) (b 4) T T2 g1 m1 r1 (by omega)) cw_RX1_44 dX1_become_19 ⟨Nat.le_of_ble_eq_true rfl, Nat.le_of_ble_eq_true rfl, Nat.le_of_ble_eq_true rfl, Nat.le_of_ble_eq_true rfl⟩ rfl (Nat.le_of_ble_eq_true rfl) rfl rfl rfl (by decide) rfl (fun _ => Nat.le_of_ble_eq_true rfl) (fun _ => rfl) _ rfl (fun v x1 hp => ?_)
  obtain ⟨rfl, hx1⟩ := hp
  refine KJ.eqs (st' := []) rfl ?_
  refine k_aload_n hC 22 dX1_become_22 rfl ?_
  refine k_getf hC 23 0 2 dX1_become_23 rfl rfl inlX1 (by decide) wq_2_3 rfl ?_
  refine k_aload_n hC 26 dX1_become_26 rfl ?_
  refine k_getf hC 27 15 2 dX1_become_27 rfl rfl inlX1 (by decide) wq_2_3 rfl ?_
  refine k_callV hC 30 5 [5, 6, 20, 21] (fun x2 => [((a 0), .inr (1, [.ref (a 1), .ref (a 3), .ref (a 5), .ref (a 7), .ref (a 9), .ref (a 11), .ref (a 13), .int (nI pl), .int (nI go), .int hi, .int mi, .int re, .int lo])), ((a 1), .inr (0, [.ref (a 2), .int (nI N2.length)])), ((a 2), .inl (D.1 5, 40, .inl x0)), ((a 3), .inr (0, [.ref (a 4), .int (nI T2.length)])), ((a 4), .inl (D.1 5, 40, .inl x1)), ((a 5), .inr (0, [.ref (a 6), .int (nI A2.length)])), ((a 6), .inl (D.1 5, 40, .inl x2)), ((a 7), .inr (0, [.ref (a 8), .int (nI B.length)])), ((a 8), .inl (D.1 5, 40, .inl g3)), ((a 9), .inr (2, [.ref (a 10)])), ((a 10), .inl (D.1 5, 40, .inl g4)), ((a 11), .inr (2, [.ref (a 12)])), ((a 12), .inl (D.1 5, 40, .inl g5)), ((a 13), .inr (2, [.ref (a 14)])), ((a 14), .inl (D.1 5, 40, .inl g6)), ((b 0), .inr (1, [.ref (b 1), .ref (b 3), .ref (b 5), .ref (b 7), .ref (b 9), .ref (b 11), .ref (b 13), .int (nI pl2), .int (nI go2), .int hi2, .int mi2, .int re2, .int lo2])), ((b 1), .inr (0, [.ref (b 2), .int (nI N2.length)])), ((b 2), .inl (D.1 5, 40, .inl m0)), ((b 3), .inr (0, [.ref (b 4), .int (nI T2.length)])), ((b 4), .inl (D.1 5, 40, .inl m1)), ((b 5), .inr (0, [.ref (b 6), .int (nI A2.length)])), ((b 6), .inl (D.1 5, 40, .inl m2)), ((b 7), .inr (0, [.ref (b 8), .int (nI B2.length)])), ((b 8), .inl (D.1 5, 40, .inl m3)), ((b 9), .inr (2, [.ref (b 10)])), ((b 10), .inl (D.1 5, 40, .inl m4)), ((b 11), .inr (2, [.ref (b 12)])), ((b 12), .inl (D.1 5, 40, .inl m5)), ((b 13), .inr (2, [.ref (b 14)])), ((b 14), .inl (D.1 5, 40, .inl m6))]) (c_X0_become l D (a 5) (a 6) (b 5) (b 6) A A2 g2 m2 r2 (by omega)) cw_RX1_44 dX1_become_30 ⟨Nat.le_of_ble_eq_true rfl, Nat.le_of_ble_eq_true rfl, Nat.le_of_ble_eq_true rfl, Nat.le_of_ble_eq_true rfl⟩ rfl (Nat.le_of_ble_eq_true rfl) rfl rfl rfl (by decide) rfl (fun _ => Nat.le_of_ble_eq_true rfl) (fun _ => rfl) _ rfl (fun v x2 hp => ?_)
  obtain ⟨rfl, hx2⟩ := hp
  refine KJ.eqs (st' := []) rfl ?_
  refine k_aload_n hC 33 dX1_become_33 rfl ?_
  refine k_getf hC 34 0 3 dX1_become_34 rfl rfl inlX1 (by decide) wq_2_4 rfl ?_
  refine k_aload_n hC 37 dX1_become_37 rfl ?_
  refine k_getf hC 38 15 3 dX1_become_38 rfl rfl inlX1 (by decide) wq_2_4 rfl ?_
  refine k_callV hC 41 7 [7, 8, 22, 23] (fun x3 => [((a 0), .inr (1, [.ref (a 1), .ref (a 3), .ref (a 5), .ref (a 7), .ref (a 9), .ref (a 11), .ref (a 13), .int (nI pl), .int (nI go), .int hi, .int mi, .int re, .int lo])), ((a 1), .inr (0, [.ref (a 2), .int (nI N2.length)])), ((a 2), .inl (D.1 5, 40, .inl x0)), ((a 3), .inr (0, [.ref (a 4), .int (nI T2.length)])), ((a 4), .inl (D.1 5, 40, .inl x1)), ((a 5), .inr (0, [.ref (a 6), .int (nI A2.length)])), ((a 6), .inl (D.1 5, 40, .inl x2)), ((a 7), .inr (0, [.ref (a 8), .int (nI B2.length)])), ((a 8), .inl (D.1 5, 40, .inl x3)), ((a 9), .inr (2, [.ref (a 10)])), ((a 10), .inl (D.1 5, 40, .inl g4)), ((a 11), .inr (2, [.ref (a 12)])), ((a 12), .inl (D.1 5, 40, .inl g5)), ((a 13), .inr (2, [.ref (a 14)])), ((a 14), .inl (D.1 5, 40, .inl g6)), ((b 0), .inr (1, [.ref (b 1), .ref (b 3), .ref (b 5), .ref (b 7), .ref (b 9), .ref (b 11), .ref (b 13), .int (nI pl2), .int (nI go2), .int hi2, .int mi2, .int re2, .int lo2])), ((b 1), .inr (0, [.ref (b 2), .int (nI N2.length)])), ((b 2), .inl (D.1 5, 40, .inl m0)), ((b 3), .inr (0, [.ref (b 4), .int (nI T2.length)])), ((b 4), .inl (D.1 5, 40, .inl m1)), ((b 5), .inr (0, [.ref (b 6), .int (nI A2.length)])), ((b 6), .inl (D.1 5, 40, .inl m2)), ((b 7), .inr (0, [.ref (b 8), .int (nI B2.length)])), ((b 8), .inl (D.1 5, 40, .inl m3)), ((b 9), .inr (2, [.ref (b 10)])), ((b 10), .inl (D.1 5, 40, .inl m4)), ((b 11), .inr (2, [.ref (b 12)])), ((b 12), .inl (D.1 5, 40, .inl m5)), ((b 13), .inr (2, [.ref (b 14)])), ((b 14), .inl (D.1 5, 40, .inl m6))]) (c_X0_become l D (a 7) (a 8) (b 7) (b 8) B B2 g3 m3 r3 (by omega)) cw_RX1_44 dX1_become_41 ⟨Nat.le_of_ble_eq_true rfl, Nat.le_of_ble_eq_true rfl, Nat.le_of_ble_eq_true rfl, Nat.le_of_ble_eq_true rfl⟩ rfl (Nat.le_of_ble_eq_true rfl) rfl rfl rfl (by decide) rfl (fun _ => Nat.le_of_ble_eq_true rfl) (fun _ => rfl) _ rfl (fun v x3 hp => ?_)
  obtain ⟨rfl, hx3⟩ := hp
  refine KJ.eqs (st' := []) rfl ?_
  refine k_aload_n hC 44 dX1_become_44 rfl ?_
  refine k_getf hC 45 0 4 dX1_become_45 rfl rfl inlX1 (by decide) wq_2_8 rfl ?_
  refine k_aload_n hC 48 dX1_become_48 rfl ?_
  refine k_getf hC 49 15 4 dX1_become_49 rfl rfl inlX1 (by decide) wq_2_8 rfl ?_
  refine k_callV hC 52 9 [9, 10, 24, 25] (fun x4 => [((a 0), .inr (1, [.ref (a 1), .ref (a 3), .ref (a 5), .ref (a 7), .ref (a 9), .ref (a 11), .ref (a 13), .int (nI pl), .int (nI go), .int hi, .int mi, .int re, .int lo])), ((a 1), .inr (0, [.ref (a 2), .int (nI N2.length)])), ((a 2), .inl (D.1 5, 40, .inl x0)), ((a 3), .inr (0, [.ref (a 4), .int (nI T2.length)])), ((a 4), .inl (D.1 5, 40, .inl x1)), ((a 5), .inr (0, [.ref (a 6), .int (nI A2.length)])), ((a 6), .inl (D.1 5, 40, .inl x2)), ((a 7), .inr (0, [.ref (a 8), .int (nI B2.length)])), ((a 8), .inl (D.1 5, 40, .inl x3)), ((a 9), .inr (2, [.ref (a 10)])), ((a 10), .inl (D.1 5, 40, .inl x4)), ((a 11), .inr (2, [.ref (a 12)])), ((a 12), .inl (D.1 5, 40, .inl g5)), ((a 13), .inr (2, [.ref (a 14)])), ((a 14), .inl (D.1 5, 40, .inl g6)), ((b 0), .inr (1, [.ref (b 1), .ref (b 3), .ref (b 5), .ref (b 7), .ref (b 9), .ref (b 11), .ref (b 13), .int (nI pl2), .int (nI go2), .int hi2, .int mi2, .int re2, .int lo2])), ((b 1), .inr (0, [.ref (b 2), .int (nI N2.length)])), ((b 2), .inl (D.1 5, 40, .inl m0)), ((b 3), .inr (0, [.ref (b 4), .int (nI T2.length)])), ((b 4), .inl (D.1 5, 40, .inl m1)), ((b 5), .inr (0, [.ref (b 6), .int (nI A2.length)])), ((b 6), .inl (D.1 5, 40, .inl m2)), ((b 7), .inr (0, [.ref (b 8), .int (nI B2.length)])), ((b 8), .inl (D.1 5, 40, .inl m3)), ((b 9), .inr (2, [.ref (b 10)])), ((b 10), .inl (D.1 5, 40, .inl m4)), ((b 11), .inr (2, [.ref (b 12)])), ((b 12), .inl (D.1 5, 40, .inl m5)), ((b 13), .inr (2, [.ref (b 14)])), ((b 14), .inl (D.1 5, 40, .inl m6))]) (c_X2_become l D (a 9) (a 10) (b 9) (b 10) g4 m4) cw_RX1_48 dX1_become_52 ⟨Nat.le_of_ble_eq_true rfl, Nat.le_of_ble_eq_true rfl, Nat.le_of_ble_eq_true rfl, Nat.le_of_ble_eq_true rfl⟩ rfl (Nat.le_of_ble_eq_true rfl) rfl rfl rfl (by decide) rfl (fun _ => Nat.le_of_ble_eq_true rfl) (fun _ => rfl) _ rfl (fun v x4 hp => ?_)
  obtain ⟨rfl, hx4⟩ := hp
  refine KJ.eqs (st' := []) rfl ?_
  refine k_aload_n hC 55 dX1_become_55 rfl ?_
  refine k_getf hC 56 0 5 dX1_become_56 rfl rfl inlX1 (by decide) wq_2_9 rfl ?_
  refine k_aload_n hC 59 dX1_become_59 rfl ?_
  refine k_getf hC 60 15 5 dX1_become_60 rfl rfl inlX1 (by decide) wq_2_9 rfl ?_
  refine k_callV hC 63 11 [11, 12, 26, 27] (fun x5 => [((a 0), .inr (1, [.ref (a 1), .ref (a 3), .ref (a 5), .ref (a 7), .ref (a 9), .ref (a 11), .ref (a 13), .int (nI pl), .int (nI go), .int hi, .int mi, .int re, .int lo])), ((a 1), .inr (0, [.ref (a 2), .int (nI N2.length)])), ((a 2), .inl (D.1 5, 40, .inl x0)), ((a 3), .inr (0, [.ref (a 4), .int (nI T2.length)])), ((a 4), .inl (D.1 5, 40, .inl x1)), ((a 5), .inr (0, [.ref (a 6), .int (nI A2.length)])), ((a 6), .inl (D.1 5, 40, .inl x2)), ((a 7), .inr (0, [.ref (a 8), .int (nI B2.length)])), ((a 8), .inl (D.1 5, 40, .inl x3)), ((a 9), .inr (2, [.ref (a 10)])), ((a 10), .inl (D.1 5, 40, .inl x4)), ((a 11), .inr (2, [.ref (a 12)])), ((a 12), .inl (D.1 5, 40, .inl x5)), ((a 13), .inr (2, [.ref (a 14)])), ((a 14), .inl (D.1 5, 40, .inl g6)), ((b 0), .inr (1, [.ref (b 1), .ref (b 3), .ref (b 5), .ref (b 7), .ref (b 9), .ref (b 11), .ref (b 13), .int (nI pl2), .int (nI go2), .int hi2, .int mi2, .int re2, .int lo2])), ((b 1), .inr (0, [.ref (b 2), .int (nI N2.length)])), ((b 2), .inl (D.1 5, 40, .inl m0)), ((b 3), .inr (0, [.ref (b 4), .int (nI T2.length)])), ((b 4), .inl (D.1 5, 40, .inl m1)), ((b 5), .inr (0, [.ref (b 6), .int (nI A2.length)])), ((b 6), .inl (D.1 5, 40, .inl m2)), ((b 7), .inr (0, [.ref (b 8), .int (nI B2.length)])), ((b 8), .inl (D.1 5, 40, .inl m3)), ((b 9), .inr (2, [.ref (b 10)])), ((b 10), .inl (D.1 5, 40, .inl m4)), ((b 11), .inr (2, [.ref (b 12)])), ((b 12), .inl (D.1 5, 40, .inl m5)), ((b 13), .inr (2, [.ref (b 14)])), ((b 14), .inl (D.1 5, 40, .inl m6))]) (c_X2_become l D (a 11) (a 12) (b 11) (b 12) g5 m5) cw_RX1_48 dX1_become_63 ⟨Nat.le_of_ble_eq_true rfl, Nat.le_of_ble_eq_true rfl, Nat.le_of_ble_eq_true rfl, Nat.le_of_ble_eq_true rfl⟩ rfl (Nat.le_of_ble_eq_true rfl) rfl rfl rfl (by decide) rfl (fun _ => Nat.le_of_ble_eq_true rfl) (fun _ => rfl) _ rfl (fun v x5 hp => ?_)
  obtain ⟨rfl, hx5⟩ := hp
  refine KJ.eqs (st' := []) rfl ?_
  refine k_aload_n hC 66 dX1_become_66 rfl ?_
  refine k_getf hC 67 0 6 dX1_become_67 rfl rfl inlX1 (by decide) wq_2_10 rfl ?_
  refine k_aload_n hC 70 dX1_become_70 rfl ?_
  refine k_getf hC 71 15 6 dX1_become_71 rfl rfl inlX1 (by decide) wq_2_10 rfl ?_
  refine k_callV hC 74 13 [13, 14, 28, 29] (fun x6 => [((a 0), .inr (1, [.ref (a 1), .ref (a 3), .ref (a 5), .ref (a 7), .ref (a 9), .ref (a 11), .ref (a 13), .int (nI pl), .int (nI go), .int hi, .int mi, .int re, .int lo])), ((a 1), .inr (0, [.ref (a 2), .int (nI N2.length)])), ((a 2), .inl (D.1 5, 40, .inl x0)), ((a 3), .inr (0, [.ref (a 4), .int (nI T2.length)])), ((a 4), .inl (D.1 5, 40, .inl x1)), ((a 5), .inr (0, [.ref (a 6), .int (nI A2.length)])), ((a 6), .inl (D.1 5, 40, .inl x2)), ((a 7), .inr (0, [.ref (a 8), .int (nI B2.length)])), ((a 8), .inl (D.1 5, 40, .inl x3)), ((a 9), .inr (2, [.ref (a 10)])), ((a 10), .inl (D.1 5, 40, .inl x4)), ((a 11), .inr (2, [.ref (a 12)])), ((a 12), .inl (D.1 5, 40, .inl x5)), ((a 13), .inr (2, [.ref (a 14)])), ((a 14), .inl (D.1 5, 40, .inl x6)), ((b 0), .inr (1, [.ref (b 1), .ref (b 3), .ref (b 5), .ref (b 7), .ref (b 9), .ref (b 11), .ref (b 13), .int (nI pl2), .int (nI go2), .int hi2, .int mi2, .int re2, .int lo2])), ((b 1), .inr (0, [.ref (b 2), .int (nI N2.length)])), ((b 2), .inl (D.1 5, 40, .inl m0)), ((b 3), .inr (0, [.ref (b 4), .int (nI T2.length)])), ((b 4), .inl (D.1 5, 40, .inl m1)), ((b 5), .inr (0, [.ref (b 6), .int (nI A2.length)])), ((b 6), .inl (D.1 5, 40, .inl m2)), ((b 7), .inr (0, [.ref (b 8), .int (nI B2.length)])), ((b 8), .inl (D.1 5, 40, .inl m3)), ((b 9), .inr (2, [.ref (b 10)])), ((b 10), .inl (D.1 5, 40, .inl m4)), ((b 11), .inr (2, [.ref (b 12)])), ((b 12), .inl (D.1 5, 40, .inl m5)), ((b 13), .inr (2, [.ref (b 14)])), ((b 14), .inl (D.1 5, 40, .inl m6))]) (c_X2_become l D (a 13) (a 14) (b 13) (b 14) g6 m6) cw_RX1_48 dX1_become_74 ⟨Nat.le_of_ble_eq_true rfl, Nat.le_of_ble_eq_true rfl, Nat.le_of_ble_eq_true rfl, Nat.le_of_ble_eq_true rfl⟩ rfl (Nat.le_of_ble_eq_true rfl) rfl rfl rfl (by decide) rfl (fun _ => Nat.le_of_ble_eq_true rfl) (fun _ => rfl) _ rfl (fun v x6 hp => ?_)
  obtain ⟨rfl, hx6⟩ := hp
  refine KJ.eqs (st' := []) rfl ?_
  refine k_aload_n hC 77 dX1_become_77 rfl ?_
  refine k_aload_n hC 78 dX1_become_78 rfl ?_
  refine k_getf hC 79 15 7 dX1_become_79 rfl rfl inlX1 (by decide) wq_2_11 rfl ?_
  refine k_putf hC 82 (ty0 := tyX1) 0 7 [((a 0), .inr (1, [.ref (a 1), .ref (a 3), .ref (a 5), .ref (a 7), .ref (a 9), .ref (a 11), .ref (a 13), .int (nI pl2), .int (nI go), .int hi, .int mi, .int re, .int lo])), ((a 1), .inr (0, [.ref (a 2), .int (nI N2.length)])), ((a 2), .inl (D.1 5, 40, .inl x0)), ((a 3), .inr (0, [.ref (a 4), .int (nI T2.length)])), ((a 4), .inl (D.1 5, 40, .inl x1)), ((a 5), .inr (0, [.ref (a 6), .int (nI A2.length)])), ((a 6), .inl (D.1 5, 40, .inl x2)), ((a 7), .inr (0, [.ref (a 8), .int (nI B2.length)])), ((a 8), .inl (D.1 5, 40, .inl x3)), ((a 9), .inr (2, [.ref (a 10)])), ((a 10), .inl (D.1 5, 40, .inl x4)), ((a 11), .inr (2, [.ref (a 12)])), ((a 12), .inl (D.1 5, 40, .inl x5)), ((a 13), .inr (2, [.ref (a 14)])), ((a 14), .inl (D.1 5, 40, .inl x6)), ((b 0), .inr (1, [.ref (b 1), .ref (b 3), .ref (b 5), .ref (b 7), .ref (b 9), .ref (b 11), .ref (b 13), .int (nI pl2), .int (nI go2), .int hi2, .int mi2, .int re2, .int lo2])), ((b 1), .inr (0, [.ref (b 2), .int (nI N2.length)])), ((b 2), .inl (D.1 5, 40, .inl m0)), ((b 3), .inr (0, [.ref (b 4), .int (nI T2.length)])), ((b 4), .inl (D.1 5, 40, .inl m1)), ((b 5), .inr (0, [.ref (b 6), .int (nI A2.length)])), ((b 6), .inl (D.1 5, 40, .inl m2)), ((b 7), .inr (0, [.ref (b 8), .int (nI B2.length)])), ((b 8), .inl (D.1 5, 40, .inl m3)), ((b 9), .inr (2, [.ref (b 10)])), ((b 10), .inl (D.1 5, 40, .inl m4)), ((b 11), .inr (2, [.ref (b 12)])), ((b 12), .inl (D.1 5, 40, .inl m5)), ((b 13), .inr (2, [.ref (b 14)])), ((b 14), .inl (D.1 5, 40, .inl m6))] dX1_become_82 rfl rfl inlX1 tyX1_ok nmX1 (by decide) wq_2_11 rfl rfl rfl (Nat.le_of_ble_eq_true rfl) rfl ?_
  refine k_aload_n hC 85 dX1_become_85 rfl ?_
  refine k_aload_n hC 86 dX1_become_86 rfl ?_
  refine k_getf hC 87 15 8 dX1_become_87 rfl rfl inlX1 (by decide) wq_6_3 rfl ?_
  refine k_putf hC 90 (ty0 := tyX1) 0 8 [((a 0), .inr (1, [.ref (a 1), .ref (a 3), .ref (a 5), .ref (a 7), .ref (a 9), .ref (a 11), .ref (a 13), .int (nI pl2), .int (nI go2), .int hi, .int mi, .int re, .int lo])), ((a 1), .inr (0, [.ref (a 2), .int (nI N2.length)])), ((a 2), .inl (D.1 5, 40, .inl x0)), ((a 3), .inr (0, [.ref (a 4), .int (nI T2.length)])), ((a 4), .inl (D.1 5, 40, .inl x1)), ((a 5), .inr (0, [.ref (a 6), .int (nI A2.length)])), ((a 6), .inl (D.1 5, 40, .inl x2)), ((a 7), .inr (0, [.ref (a 8), .int (nI B2.length)])), ((a 8), .inl (D.1 5, 40, .inl x3)), ((a 9), .inr (2, [.ref (a 10)])), ((a 10), .inl (D.1 5, 40, .inl x4)), ((a 11), .inr (2, [.ref (a 12)])), ((a 12), .inl (D.1 5, 40, .inl x5)), ((a 13), .inr (2, [.ref (a 14)])), ((a 14), .inl (D.1 5, 40, .inl x6)), ((b 0), .inr (1, [.ref (b 1), .ref (b 3), .ref (b 5), .ref (b 7), .ref (b 9), .ref (b 11), .ref (b 13), .int (nI pl2), .int (nI go2), .int hi2, .int mi2, .int re2, .int lo2])), ((b 1), .inr (0, [.ref (b 2), .int (nI N2.length)])), ((b 2), .inl (D.1 5, 40, .inl m0)), ((b 3), .inr (0, [.ref (b 4), .int (nI T2.length)])), ((b 4), .inl (D.1 5, 40, .inl m1)), ((b 5), .inr (0, [.ref (b 6), .int (nI A2.length)])), ((b 6), .inl (D.1 5, 40, .inl m2)), ((b 7), .inr (0, [.ref (b 8), .int (nI B2.length)])), ((b 8), .inl (D.1 5, 40, .inl m3)), ((b 9), .inr (2, [.ref (b 10)])), ((b 10), .inl (D.1 5, 40, .inl m4)), ((b 11), .inr (2, [.ref (b 12)])), ((b 12), .inl (D.1 5, 40, .inl m5)), ((b 13), .inr (2, [.ref (b 14)])), ((b 14), .inl (D.1 5, 40, .inl m6))] dX1_become_90 rfl rfl inlX1 tyX1_ok nmX1 (by decide) wq_6_3 rfl rfl rfl (Nat.le_of_ble_eq_true rfl) rfl ?_
  refine k_aload_n hC 93 dX1_become_93 rfl ?_
  refine k_aload_n hC 94 dX1_become_94 rfl ?_
  refine k_getf hC 95 15 9 dX1_become_95 rfl rfl inlX1 (by decide) wq_4_5 rfl ?_
  refine k_putf hC 98 (ty0 := tyX1) 0 9 [((a 0), .inr (1, [.ref (a 1), .ref (a 3), .ref (a 5), .ref (a 7), .ref (a 9), .ref (a 11), .ref (a 13), .int (nI pl2), .int (nI go2), .int hi2, .int mi, .int re, .int lo])), ((a 1), .inr (0, [.ref (a 2), .int (nI N2.length)])), ((a 2), .inl (D.1 5, 40, .inl x0)), ((a 3), .inr (0, [.ref (a 4), .int (nI T2.length)])), ((a 4), .inl (D.1 5, 40, .inl x1)), ((a 5), .inr (0, [.ref (a 6), .int (nI A2.length)])), ((a 6), .inl (D.1 5, 40, .inl x2)), ((a 7), .inr (0, [.ref (a 8), .int (nI B2.length)])), ((a 8), .inl (D.1 5, 40, .inl x3)), ((a 9), .inr (2, [.ref (a 10)])), ((a 10), .inl (D.1 5, 40, .inl x4)), ((a 11), .inr (2, [.ref (a 12)])), ((a 12), .inl (D.1 5, 40, .inl x5)), ((a 13), .inr (2, [.ref (a 14)])), ((a 14), .inl (D.1 5, 40, .inl x6)), ((b 0), .inr (1, [.ref (b 1), .ref (b 3), .ref (b 5), .ref (b 7), .ref (b 9), .ref (b 11), .ref (b 13), .int (nI pl2), .int (nI go2), .int hi2, .int mi2, .int re2, .int lo2])), ((b 1), .inr (0, [.ref (b 2), .int (nI N2.length)])), ((b 2), .inl (D.1 5, 40, .inl m0)), ((b 3), .inr (0, [.ref (b 4), .int (nI T2.length)])), ((b 4), .inl (D.1 5, 40, .inl m1)), ((b 5), .inr (0, [.ref (b 6), .int (nI A2.length)])), ((b 6), .inl (D.1 5, 40, .inl m2)), ((b 7), .inr (0, [.ref (b 8), .int (nI B2.length)])), ((b 8), .inl (D.1 5, 40, .inl m3)), ((b 9), .inr (2, [.ref (b 10)])), ((b 10), .inl (D.1 5, 40, .inl m4)), ((b 11), .inr (2, [.ref (b 12)])), ((b 12), .inl (D.1 5, 40, .inl m5)), ((b 13), .inr (2, [.ref (b 14)])), ((b 14), .inl (D.1 5, 40, .inl m6))] dX1_become_98 rfl rfl inlX1 tyX1_ok nmX1 (by decide) wq_4_5 rfl rfl rfl (Nat.le_of_ble_eq_true rfl) rfl ?_
  refine k_aload_n hC 101 dX1_become_101 rfl ?_
  refine k_aload_n hC 102 dX1_become_102 rfl ?_
  refine k_getf hC 103 15 10 dX1_become_103 rfl rfl inlX1 (by decide) wq_4_6 rfl ?_
  refine k_putf hC 106 (ty0 := tyX1) 0 10 [((a 0), .inr (1, [.ref (a 1), .ref (a 3), .ref (a 5), .ref (a 7), .ref (a 9), .ref (a 11), .ref (a 13), .int (nI pl2), .int (nI go2), .int hi2, .int mi2, .int re, .int lo])), ((a 1), .inr (0, [.ref (a 2), .int (nI N2.length)])), ((a 2), .inl (D.1 5, 40, .inl x0)), ((a 3), .inr (0, [.ref (a 4), .int (nI T2.length)])), ((a 4), .inl (D.1 5, 40, .inl x1)), ((a 5), .inr (0, [.ref (a 6), .int (nI A2.length)])), ((a 6), .inl (D.1 5, 40, .inl x2)), ((a 7), .inr (0, [.ref (a 8), .int (nI B2.length)])), ((a 8), .inl (D.1 5, 40, .inl x3)), ((a 9), .inr (2, [.ref (a 10)])), ((a 10), .inl (D.1 5, 40, .inl x4)), ((a 11), .inr (2, [.ref (a 12)])), ((a 12), .inl (D.1 5, 40, .inl x5)), ((a 13), .inr (2, [.ref (a 14)])), ((a 14), .inl (D.1 5, 40, .inl x6)), ((b 0), .inr (1, [.ref (b 1), .ref (b 3), .ref (b 5), .ref (b 7), .ref (b 9), .ref (b 11), .ref (b 13), .int (nI pl2), .int (nI go2), .int hi2, .int mi2, .int re2, .int lo2])), ((b 1), .inr (0, [.ref (b 2), .int (nI N2.length)])), ((b 2), .inl (D.1 5, 40, .inl m0)), ((b 3), .inr (0, [.ref (b 4), .int (nI T2.length)])), ((b 4), .inl (D.1 5, 40, .inl m1)), ((b 5), .inr (0, [.ref (b 6), .int (nI A2.length)])), ((b 6), .inl (D.1 5, 40, .inl m2)), ((b 7), .inr (0, [.ref (b 8), .int (nI B2.length)])), ((b 8), .inl (D.1 5, 40, .inl m3)), ((b 9), .inr (2, [.ref (b 10)])), ((b 10), .inl (D.1 5, 40, .inl m4)), ((b 11), .inr (2, [.ref (b 12)])), ((b 12), .inl (D.1 5, 40, .inl m5)), ((b 13), .inr (2, [.ref (b 14)])), ((b 14), .inl (D.1 5, 40, .inl m6))] dX1_become_106 rfl rfl inlX1 tyX1_ok nmX1 (by decide) wq_4_6 rfl rfl rfl (Nat.le_of_ble_eq_true rfl) rfl ?_
  refine k_aload_n hC 109 dX1_become_109 rfl ?_
  refine k_aload_n hC 110 dX1_become_110 rfl ?_
  refine k_getf hC 111 15 11 dX1_become_111 rfl rfl inlX1 (by decide) wq_6_8 rfl ?_
  refine k_putf hC 114 (ty0 := tyX1) 0 11 [((a 0), .inr (1, [.ref (a 1), .ref (a 3), .ref (a 5), .ref (a 7), .ref (a 9), .ref (a 11), .ref (a 13), .int (nI pl2), .int (nI go2), .int hi2, .int mi2, .int re2, .int lo])), ((a 1), .inr (0, [.ref (a 2), .int (nI N2.length)])), ((a 2), .inl (D.1 5, 40, .inl x0)), ((a 3), .inr (0, [.ref (a 4), .int (nI T2.length)])), ((a 4), .inl (D.1 5, 40, .inl x1)), ((a 5), .inr (0, [.ref (a 6), .int (nI A2.length)])), ((a 6), .inl (D.1 5, 40, .inl x2)), ((a 7), .inr (0, [.ref (a 8), .int (nI B2.length)])), ((a 8), .inl (D.1 5, 40, .inl x3)), ((a 9), .inr (2, [.ref (a 10)])), ((a 10), .inl (D.1 5, 40, .inl x4)), ((a 11), .inr (2, [.ref (a 12)])), ((a 12), .inl (D.1 5, 40, .inl x5)), ((a 13), .inr (2, [.ref (a 14)])), ((a 14), .inl (D.1 5, 40, .inl x6)), ((b 0), .inr (1, [.ref (b 1), .ref (b 3), .ref (b 5), .ref (b 7), .ref (b 9), .ref (b 11), .ref (b 13), .int (nI pl2), .int (nI go2), .int hi2, .int mi2, .int re2, .int lo2])), ((b 1), .inr (0, [.ref (b 2), .int (nI N2.length)])), ((b 2), .inl (D.1 5, 40, .inl m0)), ((b 3), .inr (0, [.ref (b 4), .int (nI T2.length)])), ((b 4), .inl (D.1 5, 40, .inl m1)), ((b 5), .inr (0, [.ref (b 6), .int (nI A2.length)])), ((b 6), .inl (D.1 5, 40, .inl m2)), ((b 7), .inr (0, [.ref (b 8), .int (nI B2.length)])), ((b 8), .inl (D.1 5, 40, .inl m3)), ((b 9), .inr (2, [.ref (b 10)])), ((b 10), .inl (D.1 5, 40, .inl m4)), ((b 11), .inr (2, [.ref (b 12)])), ((b 12), .inl (D.1 5, 40, .inl m5)), ((b 13), .inr (2, [.ref (b 14)])), ((b 14), .inl (D.1 5, 40, .inl m6))] dX1_become_114 rfl rfl inlX1 tyX1_ok nmX1 (by decide) wq_6_8 rfl rfl rfl (Nat.le_of_ble_eq_true rfl) rfl ?_
  refine k_aload_n hC 117 dX1_become_117 rfl ?_
  refine k_aload_n hC 118 dX1_become_118 rfl ?_
  refine k_getf hC 119 15 12 dX1_become_119 rfl rfl inlX1 (by decide) wq_7_1 rfl ?_
  refine k_putf hC 122 (ty0 := tyX1) 0 12 [((a 0), .inr (1, [.ref (a 1), .ref (a 3), .ref (a 5), .ref (a 7), .ref (a 9), .ref (a 11), .ref (a 13), .int (nI pl2), .int (nI go2), .int hi2, .int mi2, .int re2, .int lo2])), ((a 1), .inr (0, [.ref (a 2), .int (nI N2.length)])), ((a 2), .inl (D.1 5, 40, .inl x0)), ((a 3), .inr (0, [.ref (a 4), .int (nI T2.length)])), ((a 4), .inl (D.1 5, 40, .inl x1)), ((a 5), .inr (0, [.ref (a 6), .int (nI A2.length)])), ((a 6), .inl (D.1 5, 40, .inl x2)), ((a 7), .inr (0, [.ref (a 8), .int (nI B2.length)])), ((a 8), .inl (D.1 5, 40, .inl x3)), ((a 9), .inr (2, [.ref (a 10)])), ((a 10), .inl (D.1 5, 40, .inl x4)), ((a 11), .inr (2, [.ref (a 12)])), ((a 12), .inl (D.1 5, 40, .inl x5)), ((a 13), .inr (2, [.ref (a 14)])), ((a 14), .inl (D.1 5, 40, .inl x6)), ((b 0), .inr (1, [.ref (b 1), .ref (b 3), .ref (b 5), .ref (b 7), .ref (b 9), .ref (b 11), .ref (b 13), .int (nI pl2), .int (nI go2), .int hi2, .int mi2, .int re2, .int lo2])), ((b 1), .inr (0, [.ref (b 2), .int (nI N2.length)])), ((b 2), .inl (D.1 5, 40, .inl m0)), ((b 3), .inr (0, [.ref (b 4), .int (nI T2.length)])), ((b 4), .inl (D.1 5, 40, .inl m1)), ((b 5), .inr (0, [.ref (b 6), .int (nI A2.length)])), ((b 6), .inl (D.1 5, 40, .inl m2)), ((b 7), .inr (0, [.ref (b 8), .int (nI B2.length)])), ((b 8), .inl (D.1 5, 40, .inl m3)), ((b 9), .inr (2, [.ref (b 10)])), ((b 10), .inl (D.1 5, 40, .inl m4)), ((b 11), .inr (2, [.ref (b 12)])), ((b 12), .inl (D.1 5, 40, .inl m5)), ((b 13), .inr (2, [.ref (b 14)])), ((b 14), .inl (D.1 5, 40, .inl m6))] dX1_become_122 rfl rfl inlX1 tyX1_ok nmX1 (by decide) wq_7_1 rfl rfl rfl (Nat.le_of_ble_eq_true rfl) rfl ?_
  exact k_vret hC hE 125 (x0, x1, x2, x3, x4, x5, x6) dX1_become_125 (⟨rfl, hx0, hx1, hx2, hx3, fun k hk => (hx4 k hk).trans (r4 k hk), fun k hk => (hx5 k hk).trans (r5 k hk), fun k hk => (hx6 k hk).trans (r6 k hk)⟩) rfl ⟨Nat.zero_le _, Nat.zero_le _⟩
set_option maxHeartbeats 4000000 in
set_option maxRecDepth 100000 in
/-- sweep -/
theorem c_X1_sweep (l : Launch) (D : va_G) (a : Nat → Nat) (N T A B : List Nat) (to pi : Nat → Nat) (fe : Nat → Int32) (pl go : Nat) (hi mi re lo : Int32) (g0 g1 g2 g3 g4 g5 g6 : Nat → Int32) (n : Nat) (s' : PS) (kk : Nat) (hS : SR (N, T, A, B, to, pi, fe, pl, go, hi, mi, re, lo) (g0, g1, g2, g3, g4, g5, g6)) (hW : WF (N, T, A, B, to, pi, fe, pl, go, hi, mi, re, lo)) (hn : n ≤ 1000) (hsw : swN n (N, T, A, B, to, pi, fe, pl, go, hi, mi, re, lo) = some (s', kk)) (hpj : pc pi N + pc pi T < N.length + T.length) : MU l yX1_sweep cX1_sweep 5 (some .int) 3 67 D [.ref (a 0)] [((a 0), .inr (1, [.ref (a 1), .ref (a 3), .ref (a 5), .ref (a 7), .ref (a 9), .ref (a 11), .ref (a 13), .int (nI pl), .int (nI go), .int hi, .int mi, .int re, .int lo])), ((a 1), .inr (0, [.ref (a 2), .int (nI N.length)])), ((a 2), .inl (D.1 5, 40, .inl g0)), ((a 3), .inr (0, [.ref (a 4), .int (nI T.length)])), ((a 4), .inl (D.1 5, 40, .inl g1)), ((a 5), .inr (0, [.ref (a 6), .int (nI A.length)])), ((a 6), .inl (D.1 5, 40, .inl g2)), ((a 7), .inr (0, [.ref (a 8), .int (nI B.length)])), ((a 8), .inl (D.1 5, 40, .inl g3)), ((a 9), .inr (2, [.ref (a 10)])), ((a 10), .inl (D.1 5, 40, .inl g4)), ((a 11), .inr (2, [.ref (a 12)])), ((a 12), .inl (D.1 5, 40, .inl g5)), ((a 13), .inr (2, [.ref (a 14)])), ((a 14), .inl (D.1 5, 40, .inl g6))] (fun v (u : PS × PG) => v = some (.int (nI kk)) ∧ u.1 = s' ∧ SR u.1 u.2) (fun u => wSt D a u.1 u.2) 0 0 := by
  refine MU.enter (by decide) [(0, .ref (a 0))] rfl (Nat.le_of_ble_eq_true rfl) (fun G hC hE => ?_)
  have hC : CX G D cX1_sweep RX1 5 := hC
  have hS0 := hS
  have hW0 := hW
  obtain ⟨r0, r1, r2, r3, r4, r5, r6⟩ := hS
  obtain ⟨kN, kT, kA, kB, nd, len, lA, lB, p2, p12, g12, t1, p9⟩ := hW
  refine k_aload_n hC 0 dX1_sweep_0 rfl ?_
  refine k_callVr hC 1 0 [0, 1, 2, 3, 4, 5, 6, 7, 8, 9, 10, 11, 12, 13, 14] (c_X1_pinnedJars l D a N T A B to pi fe pl go hi mi re lo g0 g1 g2 g3 g4 g5 g6 hS0 hW0) cw_RX1_91 dX1_sweep_1 ⟨Nat.le_of_ble_eq_true rfl, Nat.le_of_ble_eq_true rfl, Nat.le_of_ble_eq_true rfl, Nat.le_of_ble_eq_true rfl⟩ rfl (Nat.le_of_ble_eq_true rfl) rfl rfl rfl (by decide) rfl (fun _ => Nat.le_of_ble_eq_true rfl) (fun _ => rfl) _ rfl (fun v u hp => ?_)
  obtain rfl := hp
  refine KJ.eqs (st' := .int (nI (pc pi N + pc pi T)) :: []) rfl ?_
  refine k_aload_n hC 4 dX1_sweep_4 rfl ?_
  refine k_callVr hC 5 0 [0, 1, 2, 3, 4, 5, 6, 7, 8, 9, 10, 11, 12, 13, 14] (c_X1_jars l D a N T A B to pi fe pl go hi mi re lo g0 g1 g2 g3 g4 g5 g6 hS0 hW0) cw_RX1_87 dX1_sweep_5 ⟨Nat.le_of_ble_eq_true rfl, Nat.le_of_ble_eq_true rfl, Nat.le_of_ble_eq_true rfl, Nat.le_of_ble_eq_true rfl⟩ rfl (Nat.le_of_ble_eq_true rfl) rfl rfl rfl (by decide) rfl (fun _ => Nat.le_of_ble_eq_true rfl) (fun _ => rfl) _ rfl (fun v u hp => ?_)
  obtain rfl := hp
  refine KJ.eqs (st' := .int (nI (N.length + T.length)) :: .int (nI (pc pi N + pc pi T)) :: []) rfl ?_
  refine n_icmp_lt hC 8 13 dX1_sweep_8 (by decide) (by omega) (by omega) (fun h8 => ?_) (fun h8 => ?_)
  · skip
    refine k_iconst hC 13 dX1_sweep_13 (nI 0) (by decide) ?_
    refine k_istore_n hC 14 1 [(1, .int (nI 0)), (0, .ref (a 0))] dX1_sweep_14 rfl (by decide) rfl ?_
    skip
    have loop15 : ∀ (n15 : Nat) (n i : Nat) (N T A B : List Nat) (to pi : Nat → Nat) (fe : Nat → Int32) (pl go : Nat) (hi mi re lo : Int32) (g0 g1 g2 g3 g4 g5 g6 : Nat → Int32), n < n15 → n + i ≤ 1000 → SR (N, T, A, B, to, pi, fe, pl, go, hi, mi, re, lo) (g0, g1, g2, g3, g4, g5, g6) → WF (N, T, A, B, to, pi, fe, pl, go, hi, mi, re, lo) → swN n (N, T, A, B, to, pi, fe, pl, go, hi, mi, re, lo) = some (s', kk) → pc pi N + pc pi T < N.length + T.length → KJ l G D ({ frames := 3, cells := 0, slots := 0, locals := 67 } : Room) 5 0 0 [((a 0), .inr (1, [.ref (a 1), .ref (a 3), .ref (a 5), .ref (a 7), .ref (a 9), .ref (a 11), .ref (a 13), .int (nI pl), .int (nI go), .int hi, .int mi, .int re, .int lo])), ((a 1), .inr (0, [.ref (a 2), .int (nI N.length)])), ((a 2), .inl (D.1 5, 40, .inl g0)), ((a 3), .inr (0, [.ref (a 4), .int (nI T.length)])), ((a 4), .inl (D.1 5, 40, .inl g1)), ((a 5), .inr (0, [.ref (a 6), .int (nI A.length)])), ((a 6), .inl (D.1 5, 40, .inl g2)), ((a 7), .inr (0, [.ref (a 8), .int (nI B.length)])), ((a 8), .inl (D.1 5, 40, .inl g3)), ((a 9), .inr (2, [.ref (a 10)])), ((a 10), .inl (D.1 5, 40, .inl g4)), ((a 11), .inr (2, [.ref (a 12)])), ((a 12), .inl (D.1 5, 40, .inl g5)), ((a 13), .inr (2, [.ref (a 14)])), ((a 14), .inl (D.1 5, 40, .inl g6))] [(1, .int (nI i)), (0, .ref (a 0))] 15 [] := by
      intro n15
      induction n15 with
      | zero => intro n i N T A B to pi fe pl go hi mi re lo g0 g1 g2 g3 g4 g5 g6 h; exact absurd h (Nat.not_lt_zero _)
      | succ n15 ih15 =>
        intro n i N T A B to pi fe pl go hi mi re lo g0 g1 g2 g3 g4 g5 g6 hn15 hi2 hS hW hsw hpj
        obtain ⟨n, rfl⟩ := swN_pos hsw
        have hS0 := hS
        have hW0 := hW
        obtain ⟨r0, r1, r2, r3, r4, r5, r6⟩ := hS
        obtain ⟨kN, kT, kA, kB, nd, len, lA, lB, p2, p12, g12, t1, p9⟩ := hW
        refine k_iload_n hC 15 dX1_sweep_15 rfl ?_
        refine k_ldc hC 16 1000000 dX1_sweep_16 wq_7_0 (KJ.topi (y := nI 1000000) rfl ?_)
        refine n_icmp_ge hC 18 140 dX1_sweep_18 (by decide) (by omega) (by omega) (fun h18 => ?_) (fun h18 => ?_)
        · skip
          exact absurd h18 (by omega)
        · skip
          refine k_aload_n hC 21 dX1_sweep_21 rfl ?_
          refine k_callVr hC 22 0 [0, 1, 2, 3, 4, 5, 6, 7, 8, 9, 10, 11, 12, 13, 14] (c_X1_givingShelf l D a N T A B to pi fe pl go hi mi re lo g0 g1 g2 g3 g4 g5 g6 hS0 hW0) cw_RX1_138 dX1_sweep_22 ⟨Nat.le_of_ble_eq_true rfl, Nat.le_of_ble_eq_true rfl, Nat.le_of_ble_eq_true rfl, Nat.le_of_ble_eq_true rfl⟩ rfl (Nat.le_of_ble_eq_true rfl) rfl rfl rfl (by decide) rfl (fun _ => Nat.le_of_ble_eq_true rfl) (fun _ => rfl) _ rfl (fun v u hp => ?_)
          obtain rfl := hp
          refine KJ.eqs (st' := .int (nI (gv N T pi go)) :: []) rfl ?_
          rcases gv_01 N T pi go with hg | hg
          · skip
            rw [hg]
            obtain ⟨k, N', rfl⟩ := gv_0 hg
            have hk : k < 40 := kN k List.mem_cons_self
            have hX : KL N' := fun x hx => kN x (List.mem_cons_of_mem _ hx)
            have lX : N'.length + 1 = (k :: N').length := rfl
            refine k_istore_n hC 25 2 [(2, .int (nI 0)), (1, .int (nI i)), (0, .ref (a 0))] dX1_sweep_25 rfl (by decide) rfl ?_
            refine k_aload_n hC 26 dX1_sweep_26 rfl ?_
            refine k_iload_n hC 27 dX1_sweep_27 rfl ?_
            refine k_callVr hC 28 0 [0, 1, 2, 3, 4, 5, 6, 7, 8, 9, 10, 11, 12, 13, 14] (c_X1_rowOf0 l D a (k :: N') T A B to pi fe pl go hi mi re lo g0 g1 g2 g3 g4 g5 g6 hS0 hW0) cw_RX1_141 dX1_sweep_28 ⟨Nat.le_of_ble_eq_true rfl, Nat.le_of_ble_eq_true rfl, Nat.le_of_ble_eq_true rfl, Nat.le_of_ble_eq_true rfl⟩ rfl (Nat.le_of_ble_eq_true rfl) rfl rfl rfl (by decide) rfl (fun _ => Nat.le_of_ble_eq_true rfl) (fun _ => rfl) _ rfl (fun v u hp => ?_)
            obtain rfl := hp
            refine KJ.eqs (st' := .ref (a 1) :: []) rfl ?_
            refine k_astore_n hC 31 3 [(3, .ref (a 1)), (2, .int (nI 0)), (1, .int (nI i)), (0, .ref (a 0))] dX1_sweep_31 rfl (by decide) rfl ?_
            refine k_aload_n hC 32 dX1_sweep_32 rfl ?_
            refine k_iconst hC 33 dX1_sweep_33 (nI 0) (by decide) ?_
            refine k_callVr hC 34 1 [1, 2] (c_X0_at_in l D (a 1) (a 2) (k :: N') g0 0 r0 (by omega) kN (Nat.succ_pos _)) cw_RX1_77 dX1_sweep_34 ⟨Nat.le_of_ble_eq_true rfl, Nat.le_of_ble_eq_true rfl, Nat.le_of_ble_eq_true rfl, Nat.le_of_ble_eq_true rfl⟩ rfl (Nat.le_of_ble_eq_true rfl) rfl rfl rfl (by decide) rfl (fun _ => Nat.le_of_ble_eq_true rfl) (fun _ => rfl) _ rfl (fun v u hp => ?_)
            obtain rfl := hp
            refine KJ.eqs (st' := .int (nI ((k :: N').getD 0 0)) :: []) rfl ?_
            refine KJ.topi (y := (nI k)) rfl ?_
            refine k_istore hC 37 4 [(4, .int (nI k)), (3, .ref (a 1)), (2, .int (nI 0)), (1, .int (nI i)), (0, .ref (a 0))] dX1_sweep_37 (by decide) rfl ?_
            refine k_aload_n hC 39 dX1_sweep_39 rfl ?_
            refine k_iconst hC 40 dX1_sweep_40 (nI 0) (by decide) ?_
            refine k_callV hC 41 1 [1, 2] (fun x => [((a 0), .inr (1, [.ref (a 1), .ref (a 3), .ref (a 5), .ref (a 7), .ref (a 9), .ref (a 11), .ref (a 13), .int (nI pl), .int (nI go), .int hi, .int mi, .int re, .int lo])), ((a 1), .inr (0, [.ref (a 2), .int (nI N'.length)])), ((a 2), .inl (D.1 5, 40, .inl x)), ((a 3), .inr (0, [.ref (a 4), .int (nI T.length)])), ((a 4), .inl (D.1 5, 40, .inl g1)), ((a 5), .inr (0, [.ref (a 6), .int (nI A.length)])), ((a 6), .inl (D.1 5, 40, .inl g2)), ((a 7), .inr (0, [.ref (a 8), .int (nI B.length)])), ((a 8), .inl (D.1 5, 40, .inl g3)), ((a 9), .inr (2, [.ref (a 10)])), ((a 10), .inl (D.1 5, 40, .inl g4)), ((a 11), .inr (2, [.ref (a 12)])), ((a 12), .inl (D.1 5, 40, .inl g5)), ((a 13), .inr (2, [.ref (a 14)])), ((a 14), .inl (D.1 5, 40, .inl g6))]) (c_X0_takeOut l D (a 1) (a 2) (k :: N') g0 0 r0 (by omega) (Nat.succ_pos _)) cw_RX1_127 dX1_sweep_41 ⟨Nat.le_of_ble_eq_true rfl, Nat.le_of_ble_eq_true rfl, Nat.le_of_ble_eq_true rfl, Nat.le_of_ble_eq_true rfl⟩ rfl (Nat.le_of_ble_eq_true rfl) rfl rfl rfl (by decide) rfl (fun _ => Nat.le_of_ble_eq_true rfl) (fun _ => rfl) _ rfl (fun v x hp => ?_)
            obtain ⟨rfl, hx⟩ := hp
            have hx : RowL N' x := hx
            refine KJ.eqs (st' := []) rfl ?_
            refine k_aload_n hC 44 dX1_sweep_44 rfl ?_
            refine k_dup hC 45 dX1_sweep_45 rfl ?_
            refine k_getf hC 46 0 12 dX1_sweep_46 rfl rfl inlX1 (by decide) wq_7_1 rfl ?_
            refine k_iconst hC 49 dX1_sweep_49 (nI 1) (by decide) ?_
            refine k_iadd hC 50 dX1_sweep_50 (KJ.topi (y := (lo + 1)) rfl ?_)
            refine k_putf hC 51 (ty0 := tyX1) 0 12 [((a 0), .inr (1, [.ref (a 1), .ref (a 3), .ref (a 5), .ref (a 7), .ref (a 9), .ref (a 11), .ref (a 13), .int (nI pl), .int (nI go), .int hi, .int mi, .int re, .int (lo + 1)])), ((a 1), .inr (0, [.ref (a 2), .int (nI N'.length)])), ((a 2), .inl (D.1 5, 40, .inl x)), ((a 3), .inr (0, [.ref (a 4), .int (nI T.length)])), ((a 4), .inl (D.1 5, 40, .inl g1)), ((a 5), .inr (0, [.ref (a 6), .int (nI A.length)])), ((a 6), .inl (D.1 5, 40, .inl g2)), ((a 7), .inr (0, [.ref (a 8), .int (nI B.length)])), ((a 8), .inl (D.1 5, 40, .inl g3)), ((a 9), .inr (2, [.ref (a 10)])), ((a 10), .inl (D.1 5, 40, .inl g4)), ((a 11), .inr (2, [.ref (a 12)])), ((a 12), .inl (D.1 5, 40, .inl g5)), ((a 13), .inr (2, [.ref (a 14)])), ((a 14), .inl (D.1 5, 40, .inl g6))] dX1_sweep_51 rfl rfl inlX1 tyX1_ok nmX1 (by decide) wq_7_1 rfl rfl rfl (Nat.le_of_ble_eq_true rfl) rfl ?_
            refine k_aload_n hC 54 dX1_sweep_54 rfl ?_
            refine k_getf hC 55 0 5 dX1_sweep_55 rfl rfl inlX1 (by decide) wq_2_9 rfl ?_
            refine k_iload hC 58 dX1_sweep_58 rfl ?_
            refine k_callVr hC 60 11 [11, 12] (c_X2_of l D (a 11) (a 12) g5 k hk) cw_RX1_81 dX1_sweep_60 ⟨Nat.le_of_ble_eq_true rfl, Nat.le_of_ble_eq_true rfl, Nat.le_of_ble_eq_true rfl, Nat.le_of_ble_eq_true rfl⟩ rfl (Nat.le_of_ble_eq_true rfl) rfl rfl rfl (by decide) rfl (fun _ => Nat.le_of_ble_eq_true rfl) (fun _ => rfl) _ rfl (fun v u hp => ?_)
            obtain rfl := hp
            refine KJ.eqs (st' := .int (g5 k) :: []) rfl ?_
            refine KJ.topi (y := (nI (pi k))) (r5 k hk) ?_
            refine n_if_le hC 63 75 dX1_sweep_63 (by decide) (Nat.lt_of_le_of_lt (p9 k) (by decide)) (fun hp => ?_) (fun hp => ?_)
            · skip
              refine k_aload_n hC 75 dX1_sweep_75 rfl ?_
              refine k_getf hC 76 0 4 dX1_sweep_76 rfl rfl inlX1 (by decide) wq_2_8 rfl ?_
              refine k_iload hC 79 dX1_sweep_79 rfl ?_
              refine k_callVr hC 81 9 [9, 10] (c_X2_of l D (a 9) (a 10) g4 k hk) cw_RX1_81 dX1_sweep_81 ⟨Nat.le_of_ble_eq_true rfl, Nat.le_of_ble_eq_true rfl, Nat.le_of_ble_eq_true rfl, Nat.le_of_ble_eq_true rfl⟩ rfl (Nat.le_of_ble_eq_true rfl) rfl rfl rfl (by decide) rfl (fun _ => Nat.le_of_ble_eq_true rfl) (fun _ => rfl) _ rfl (fun v u hp => ?_)
              obtain rfl := hp
              refine KJ.eqs (st' := .int (g4 k) :: []) rfl ?_
              refine KJ.topi (y := (nI (to k))) (r4 k hk) ?_
              refine n_if_le hC 84 109 dX1_sweep_84 (by decide) (Nat.lt_of_le_of_lt (t1 k) (by decide)) (fun ht => ?_) (fun ht => ?_)
              · skip
                refine k_aload_n hC 109 dX1_sweep_109 rfl ?_
                refine k_iload_n hC 110 dX1_sweep_110 rfl ?_
                have e := lk_0l (A := A) (B := B) (to := to) (fe := fe) (pl := pl) (hi := hi) (mi := mi) (re := re) (lo := lo) hg hp ht
                refine k_callVr hC 111 0 [0, 1, 2, 3, 4, 5, 6, 7, 8, 9, 10, 11, 12, 13, 14] (c_X1_listOf0 l D a N' T A B to pi fe pl go hi mi re (lo + 1) x g1 g2 g3 g4 g5 g6 ⟨hx, r1, r2, r3, r4, r5, r6⟩ (wf_tl0 hW0)) cw_RX1_145 dX1_sweep_111 ⟨Nat.le_of_ble_eq_true rfl, Nat.le_of_ble_eq_true rfl, Nat.le_of_ble_eq_true rfl, Nat.le_of_ble_eq_true rfl⟩ rfl (Nat.le_of_ble_eq_true rfl) rfl rfl rfl (by decide) rfl (fun _ => Nat.le_of_ble_eq_true rfl) (fun _ => rfl) _ rfl (fun v u hp => ?_)
                obtain rfl := hp
                refine KJ.eqs (st' := .ref (a 5) :: []) rfl ?_
                refine k_iload hC 114 dX1_sweep_114 rfl ?_
                refine k_callV hC 116 5 [5, 6] (fun y => [((a 0), .inr (1, [.ref (a 1), .ref (a 3), .ref (a 5), .ref (a 7), .ref (a 9), .ref (a 11), .ref (a 13), .int (nI pl), .int (nI go), .int hi, .int mi, .int re, .int (lo + 1)])), ((a 1), .inr (0, [.ref (a 2), .int (nI N'.length)])), ((a 2), .inl (D.1 5, 40, .inl x)), ((a 3), .inr (0, [.ref (a 4), .int (nI T.length)])), ((a 4), .inl (D.1 5, 40, .inl g1)), ((a 5), .inr (0, [.ref (a 6), .int (nI ((A ++ [k]).length))])), ((a 6), .inl (D.1 5, 40, .inl y)), ((a 7), .inr (0, [.ref (a 8), .int (nI B.length)])), ((a 8), .inl (D.1 5, 40, .inl g3)), ((a 9), .inr (2, [.ref (a 10)])), ((a 10), .inl (D.1 5, 40, .inl g4)), ((a 11), .inr (2, [.ref (a 12)])), ((a 12), .inl (D.1 5, 40, .inl g5)), ((a 13), .inr (2, [.ref (a 14)])), ((a 14), .inl (D.1 5, 40, .inl g6))]) (c_X0_append l D (a 5) (a 6) A g2 k r2 (by omega) hk) cw_RX1_134 dX1_sweep_116 ⟨Nat.le_of_ble_eq_true rfl, Nat.le_of_ble_eq_true rfl, Nat.le_of_ble_eq_true rfl, Nat.le_of_ble_eq_true rfl⟩ rfl (Nat.le_of_ble_eq_true rfl) rfl rfl rfl (by decide) rfl (fun _ => Nat.le_of_ble_eq_true rfl) (fun _ => rfl) _ rfl (fun v y hp => ?_)
                obtain ⟨rfl, hy⟩ := hp
                refine KJ.eqs (st' := []) rfl ?_
                refine k_aload_n hC 119 dX1_sweep_119 rfl ?_
                refine k_iload_n hC 120 dX1_sweep_120 rfl ?_
                refine k_callVr hC 121 0 [0, 1, 2, 3, 4, 5, 6, 7, 8, 9, 10, 11, 12, 13, 14] (c_X1_listOf0q l D a N' T (A ++ [k]) B to pi fe pl go hi mi re (lo + 1) x g1 y g3 g4 g5 g6) cw_RX1_145 dX1_sweep_121 ⟨Nat.le_of_ble_eq_true rfl, Nat.le_of_ble_eq_true rfl, Nat.le_of_ble_eq_true rfl, Nat.le_of_ble_eq_true rfl⟩ rfl (Nat.le_of_ble_eq_true rfl) rfl rfl rfl (by decide) rfl (fun _ => Nat.le_of_ble_eq_true rfl) (fun _ => rfl) _ rfl (fun v u hp => ?_)
                obtain rfl := hp
                refine KJ.eqs (st' := .ref (a 5) :: []) rfl ?_
                refine k_aload_n hC 124 dX1_sweep_124 rfl ?_
                refine k_getf hC 125 0 7 dX1_sweep_125 rfl rfl inlX1 (by decide) wq_2_11 rfl ?_
                refine k_callV hC 128 5 [5, 6] (fun z => [((a 0), .inr (1, [.ref (a 1), .ref (a 3), .ref (a 5), .ref (a 7), .ref (a 9), .ref (a 11), .ref (a 13), .int (nI pl), .int (nI go), .int hi, .int mi, .int re, .int (lo + 1)])), ((a 1), .inr (0, [.ref (a 2), .int (nI N'.length)])), ((a 2), .inl (D.1 5, 40, .inl x)), ((a 3), .inr (0, [.ref (a 4), .int (nI T.length)])), ((a 4), .inl (D.1 5, 40, .inl g1)), ((a 5), .inr (0, [.ref (a 6), .int (nI ((tr pl (A ++ [k])).length))])), ((a 6), .inl (D.1 5, 40, .inl z)), ((a 7), .inr (0, [.ref (a 8), .int (nI B.length)])), ((a 8), .inl (D.1 5, 40, .inl g3)), ((a 9), .inr (2, [.ref (a 10)])), ((a 10), .inl (D.1 5, 40, .inl g4)), ((a 11), .inr (2, [.ref (a 12)])), ((a 12), .inl (D.1 5, 40, .inl g5)), ((a 13), .inr (2, [.ref (a 14)])), ((a 14), .inl (D.1 5, 40, .inl g6))]) (c_X0_forgetEldest l D (a 5) (a 6) (A ++ [k]) y pl hy (by rw [List.length_append, List.length_singleton]; omega) (kA.push hk) (by omega)) cw_RX1_148 dX1_sweep_128 ⟨Nat.le_of_ble_eq_true rfl, Nat.le_of_ble_eq_true rfl, Nat.le_of_ble_eq_true rfl, Nat.le_of_ble_eq_true rfl⟩ rfl (Nat.le_of_ble_eq_true rfl) rfl rfl rfl (by decide) rfl (fun _ => Nat.le_of_ble_eq_true rfl) (fun _ => rfl) _ rfl (fun v z hp => ?_)
                obtain ⟨rfl, hz⟩ := hp
                refine KJ.eqs (st' := []) rfl ?_
                refine k_iload hC 131 dX1_sweep_131 rfl ?_
                exact k_iret hC hE 133 ((N', T, (tr pl (A ++ [k])), B, to, pi, fe, pl, go, hi, mi, re, lo + 1), (x, g1, z, g3, g4, g5, g6)) dX1_sweep_133 rfl (⟨by rw [(swN_e hsw e).2], (swN_e hsw e).1, hx, r1, hz, r3, r4, r5, r6⟩) rfl ⟨Nat.zero_le _, Nat.zero_le _⟩
              · skip
                refine k_aload_n hC 87 dX1_sweep_87 rfl ?_
                refine k_getf hC 88 0 4 dX1_sweep_88 rfl rfl inlX1 (by decide) wq_2_8 rfl ?_
                refine k_iload hC 91 dX1_sweep_91 rfl ?_
                refine k_iconst hC 93 dX1_sweep_93 (nI 0) (by decide) ?_
                refine k_callV hC 94 9 [9, 10] (fun _ => [((a 0), .inr (1, [.ref (a 1), .ref (a 3), .ref (a 5), .ref (a 7), .ref (a 9), .ref (a 11), .ref (a 13), .int (nI pl), .int (nI go), .int hi, .int mi, .int re, .int (lo + 1)])), ((a 1), .inr (0, [.ref (a 2), .int (nI N'.length)])), ((a 2), .inl (D.1 5, 40, .inl x)), ((a 3), .inr (0, [.ref (a 4), .int (nI T.length)])), ((a 4), .inl (D.1 5, 40, .inl g1)), ((a 5), .inr (0, [.ref (a 6), .int (nI A.length)])), ((a 6), .inl (D.1 5, 40, .inl g2)), ((a 7), .inr (0, [.ref (a 8), .int (nI B.length)])), ((a 8), .inl (D.1 5, 40, .inl g3)), ((a 9), .inr (2, [.ref (a 10)])), ((a 10), .inl (D.1 5, 40, .inl (upd g4 k (nI 0)))), ((a 11), .inr (2, [.ref (a 12)])), ((a 12), .inl (D.1 5, 40, .inl g5)), ((a 13), .inr (2, [.ref (a 14)])), ((a 14), .inl (D.1 5, 40, .inl g6))]) (c_X2_put l D (a 9) (a 10) g4 k (nI 0) hk) cw_RX1_97 dX1_sweep_94 ⟨Nat.le_of_ble_eq_true rfl, Nat.le_of_ble_eq_true rfl, Nat.le_of_ble_eq_true rfl, Nat.le_of_ble_eq_true rfl⟩ rfl (Nat.le_of_ble_eq_true rfl) rfl rfl rfl (by decide) rfl (fun _ => Nat.le_of_ble_eq_true rfl) (fun _ => rfl) _ rfl (fun v _ hp => ?_)
                obtain rfl := hp
                refine KJ.eqs (st' := []) rfl ?_
                refine k_aload_n hC 97 dX1_sweep_97 rfl ?_
                refine k_getf hC 98 0 1 dX1_sweep_98 rfl rfl inlX1 (by decide) wq_2_2 rfl ?_
                refine k_iload hC 101 dX1_sweep_101 rfl ?_
                refine k_callV hC 103 3 [3, 4] (fun y => [((a 0), .inr (1, [.ref (a 1), .ref (a 3), .ref (a 5), .ref (a 7), .ref (a 9), .ref (a 11), .ref (a 13), .int (nI pl), .int (nI go), .int hi, .int mi, .int re, .int (lo + 1)])), ((a 1), .inr (0, [.ref (a 2), .int (nI N'.length)])), ((a 2), .inl (D.1 5, 40, .inl x)), ((a 3), .inr (0, [.ref (a 4), .int (nI ((T ++ [k]).length))])), ((a 4), .inl (D.1 5, 40, .inl y)), ((a 5), .inr (0, [.ref (a 6), .int (nI A.length)])), ((a 6), .inl (D.1 5, 40, .inl g2)), ((a 7), .inr (0, [.ref (a 8), .int (nI B.length)])), ((a 8), .inl (D.1 5, 40, .inl g3)), ((a 9), .inr (2, [.ref (a 10)])), ((a 10), .inl (D.1 5, 40, .inl (upd g4 k (nI 0)))), ((a 11), .inr (2, [.ref (a 12)])), ((a 12), .inl (D.1 5, 40, .inl g5)), ((a 13), .inr (2, [.ref (a 14)])), ((a 14), .inl (D.1 5, 40, .inl g6))]) (c_X0_append l D (a 3) (a 4) T g1 k r1 (by omega) hk) cw_RX1_134 dX1_sweep_103 ⟨Nat.le_of_ble_eq_true rfl, Nat.le_of_ble_eq_true rfl, Nat.le_of_ble_eq_true rfl, Nat.le_of_ble_eq_true rfl⟩ rfl (Nat.le_of_ble_eq_true rfl) rfl rfl rfl (by decide) rfl (fun _ => Nat.le_of_ble_eq_true rfl) (fun _ => rfl) _ rfl (fun v y hp => ?_)
                obtain ⟨rfl, hy⟩ := hp
                refine KJ.eqs (st' := []) rfl ?_
                refine k_goto hC 106 134 dX1_sweep_106 (by decide) ?_
                refine k_iinc hC 134 3 (nI (i + 1)) [(1, .int (nI (i + 1))), (4, .int (nI k)), (3, .ref (a 1)), (2, .int (nI 0)), (0, .ref (a 0))] dX1_sweep_134 rfl (nI_1 _) (by decide) rfl ?_
                refine k_goto hC 137 15 dX1_sweep_137 (by decide) ?_
                refine KJ.lvp [0, 4] rfl ?_
                have e := lk_0t (A := A) (B := B) (to := to) (fe := fe) (pl := pl) (hi := hi) (mi := mi) (re := re) (lo := lo) hg hp ht
                have w2 := lk_wf hW0 hpj
                have j2 := lk_pj (s := ((k :: N'), T, A, B, to, pi, fe, pl, go, hi, mi, re, lo)) hpj
                rw [e] at w2 j2
                exact ih15 n (i + 1) N' (T ++ [k]) A B (va_up to k 0) pi fe pl go hi mi re (lo + 1) x y g2 g3 (upd g4 k (nI 0)) g5 g6 (by omega) (by omega) ⟨hx, hy, r2, r3, tup r4 k 0, r5, r6⟩ w2 (swN_n hsw e) (by have j3 := j2.1; have j4 := j2.2.1; simp only [pnd, jrs, if_true] at j3 j4; omega)
            · skip
              refine k_aload_n hC 66 dX1_sweep_66 rfl ?_
              refine k_iload hC 67 dX1_sweep_67 rfl ?_
              refine k_callV hC 69 1 [1, 2] (fun y => [((a 0), .inr (1, [.ref (a 1), .ref (a 3), .ref (a 5), .ref (a 7), .ref (a 9), .ref (a 11), .ref (a 13), .int (nI pl), .int (nI go), .int hi, .int mi, .int re, .int (lo + 1)])), ((a 1), .inr (0, [.ref (a 2), .int (nI ((N' ++ [k]).length))])), ((a 2), .inl (D.1 5, 40, .inl y)), ((a 3), .inr (0, [.ref (a 4), .int (nI T.length)])), ((a 4), .inl (D.1 5, 40, .inl g1)), ((a 5), .inr (0, [.ref (a 6), .int (nI A.length)])), ((a 6), .inl (D.1 5, 40, .inl g2)), ((a 7), .inr (0, [.ref (a 8), .int (nI B.length)])), ((a 8), .inl (D.1 5, 40, .inl g3)), ((a 9), .inr (2, [.ref (a 10)])), ((a 10), .inl (D.1 5, 40, .inl g4)), ((a 11), .inr (2, [.ref (a 12)])), ((a 12), .inl (D.1 5, 40, .inl g5)), ((a 13), .inr (2, [.ref (a 14)])), ((a 14), .inl (D.1 5, 40, .inl g6))]) (c_X0_append l D (a 1) (a 2) N' x k hx (by omega) hk) cw_RX1_134 dX1_sweep_69 ⟨Nat.le_of_ble_eq_true rfl, Nat.le_of_ble_eq_true rfl, Nat.le_of_ble_eq_true rfl, Nat.le_of_ble_eq_true rfl⟩ rfl (Nat.le_of_ble_eq_true rfl) rfl rfl rfl (by decide) rfl (fun _ => Nat.le_of_ble_eq_true rfl) (fun _ => rfl) _ rfl (fun v y hp => ?_)
              obtain ⟨rfl, hy⟩ := hp
              refine KJ.eqs (st' := []) rfl ?_
              refine k_goto hC 72 134 dX1_sweep_72 (by decide) ?_
              refine k_iinc hC 134 3 (nI (i + 1)) [(1, .int (nI (i + 1))), (4, .int (nI k)), (3, .ref (a 1)), (2, .int (nI 0)), (0, .ref (a 0))] dX1_sweep_134 rfl (nI_1 _) (by decide) rfl ?_
              refine k_goto hC 137 15 dX1_sweep_137 (by decide) ?_
              refine KJ.lvp [0, 4] rfl ?_
              have e := lk_0p (A := A) (B := B) (to := to) (fe := fe) (pl := pl) (hi := hi) (mi := mi) (re := re) (lo := lo) hg hp
              have w2 := lk_wf hW0 hpj
              have j2 := lk_pj (s := ((k :: N'), T, A, B, to, pi, fe, pl, go, hi, mi, re, lo)) hpj
              rw [e] at w2 j2
              exact ih15 n (i + 1) (N' ++ [k]) T A B to pi fe pl go hi mi re (lo + 1) y g1 g2 g3 g4 g5 g6 (by omega) (by omega) ⟨hy, r1, r2, r3, r4, r5, r6⟩ w2 (swN_n hsw e) (by have j3 := j2.1; have j4 := j2.2.1; simp only [pnd, jrs, if_true] at j3 j4; omega)
          · skip
            rw [hg]
            obtain ⟨k, T', rfl⟩ := gv_1 hg hpj
            have hk : k < 40 := kT k List.mem_cons_self
            have hX : KL T' := fun x hx => kT x (List.mem_cons_of_mem _ hx)
            have lX : T'.length + 1 = (k :: T').length := rfl
            refine k_istore_n hC 25 2 [(2, .int (nI 1)), (1, .int (nI i)), (0, .ref (a 0))] dX1_sweep_25 rfl (by decide) rfl ?_
            refine k_aload_n hC 26 dX1_sweep_26 rfl ?_
            refine k_iload_n hC 27 dX1_sweep_27 rfl ?_
            refine k_callVr hC 28 0 [0, 1, 2, 3, 4, 5, 6, 7, 8, 9, 10, 11, 12, 13, 14] (c_X1_rowOf1 l D a N (k :: T') A B to pi fe pl go hi mi re lo g0 g1 g2 g3 g4 g5 g6 hS0 hW0) cw_RX1_141 dX1_sweep_28 ⟨Nat.le_of_ble_eq_true rfl, Nat.le_of_ble_eq_true rfl, Nat.le_of_ble_eq_true rfl, Nat.le_of_ble_eq_true rfl⟩ rfl (Nat.le_of_ble_eq_true rfl) rfl rfl rfl (by decide) rfl (fun _ => Nat.le_of_ble_eq_true rfl) (fun _ => rfl) _ rfl (fun v u hp => ?_)
            obtain rfl := hp
            refine KJ.eqs (st' := .ref (a 3) :: []) rfl ?_
            refine k_astore_n hC 31 3 [(3, .ref (a 3)), (2, .int (nI 1)), (1, .int (nI i)), (0, .ref (a 0))] dX1_sweep_31 rfl (by decide) rfl ?_
            refine k_aload_n hC 32 dX1_sweep_32 rfl ?_
            refine k_iconst hC 33 dX1_sweep_33 (nI 0) (by decide) ?_
            refine k_callVr hC 34 3 [3, 4] (c_X0_at_in l D (a 3) (a 4) (k :: T') g1 0 r1 (by omega) kT (Nat.succ_pos _)) cw_RX1_77 dX1_sweep_34 ⟨Nat.le_of_ble_eq_true rfl, Nat.le_of_ble_eq_true rfl, Nat.le_of_ble_eq_true rfl, Nat.le_of_ble_eq_true rfl⟩ rfl (Nat.le_of_ble_eq_true rfl) rfl rfl rfl (by decide) rfl (fun _ => Nat.le_of_ble_eq_true rfl) (fun _ => rfl) _ rfl (fun v u hp => ?_)
            obtain rfl := hp
            refine KJ.eqs (st' := .int (nI ((k :: T').getD 0 0)) :: []) rfl ?_
            refine KJ.topi (y := (nI k)) rfl ?_
            refine k_istore hC 37 4 [(4, .int (nI k)), (3, .ref (a 3)), (2, .int (nI 1)), (1, .int (nI i)), (0, .ref (a 0))] dX1_sweep_37 (by decide) rfl ?_
            refine k_aload_n hC 39 dX1_sweep_39 rfl ?_
            refine k_iconst hC 40 dX1_sweep_40 (nI 0) (by decide) ?_
            refine k_callV hC 41 3 [3, 4] (fun x => [((a 0), .inr (1, [.ref (a 1), .ref (a 3), .ref (a 5), .ref (a 7), .ref (a 9), .ref (a 11), .ref (a 13), .int (nI pl), .int (nI go), .int hi, .int mi, .int re, .int lo])), ((a 1), .inr (0, [.ref (a 2), .int (nI N.length)])), ((a 2), .inl (D.1 5, 40, .inl g0)), ((a 3), .inr (0, [.ref (a 4), .int (nI T'.length)])), ((a 4), .inl (D.1 5, 40, .inl x)), ((a 5), .inr (0, [.ref (a 6), .int (nI A.length)])), ((a 6), .inl (D.1 5, 40, .inl g2)), ((a 7), .inr (0, [.ref (a 8), .int (nI B.length)])), ((a 8), .inl (D.1 5, 40, .inl g3)), ((a 9), .inr (2, [.ref (a 10)])), ((a 10), .inl (D.1 5, 40, .inl g4)), ((a 11), .inr (2, [.ref (a 12)])), ((a 12), .inl (D.1 5, 40, .inl g5)), ((a 13), .inr (2, [.ref (a 14)])), ((a 14), .inl (D.1 5, 40, .inl g6))]) (c_X0_takeOut l D (a 3) (a 4) (k :: T') g1 0 r1 (by omega) (Nat.succ_pos _)) cw_RX1_127 dX1_sweep_41 ⟨Nat.le_of_ble_eq_true rfl, Nat.le_of_ble_eq_true rfl, Nat.le_of_ble_eq_true rfl, Nat.le_of_ble_eq_true rfl⟩ rfl (Nat.le_of_ble_eq_true rfl) rfl rfl rfl (by decide) rfl (fun _ => Nat.le_of_ble_eq_true rfl) (fun _ => rfl) _ rfl (fun v x hp => ?_)
            obtain ⟨rfl, hx⟩ := hp
            have hx : RowL T' x := hx
            refine KJ.eqs (st' := []) rfl ?_
            refine k_aload_n hC 44 dX1_sweep_44 rfl ?_
            refine k_dup hC 45 dX1_sweep_45 rfl ?_
            refine k_getf hC 46 0 12 dX1_sweep_46 rfl rfl inlX1 (by decide) wq_7_1 rfl ?_
            refine k_iconst hC 49 dX1_sweep_49 (nI 1) (by decide) ?_
            refine k_iadd hC 50 dX1_sweep_50 (KJ.topi (y := (lo + 1)) rfl ?_)
            refine k_putf hC 51 (ty0 := tyX1) 0 12 [((a 0), .inr (1, [.ref (a 1), .ref (a 3), .ref (a 5), .ref (a 7), .ref (a 9), .ref (a 11), .ref (a 13), .int (nI pl), .int (nI go), .int hi, .int mi, .int re, .int (lo + 1)])), ((a 1), .inr (0, [.ref (a 2), .int (nI N.length)])), ((a 2), .inl (D.1 5, 40, .inl g0)), ((a 3), .inr (0, [.ref (a 4), .int (nI T'.length)])), ((a 4), .inl (D.1 5, 40, .inl x)), ((a 5), .inr (0, [.ref (a 6), .int (nI A.length)])), ((a 6), .inl (D.1 5, 40, .inl g2)), ((a 7), .inr (0, [.ref (a 8), .int (nI B.length)])), ((a 8), .inl (D.1 5, 40, .inl g3)), ((a 9), .inr (2, [.ref (a 10)])), ((a 10), .inl (D.1 5, 40, .inl g4)), ((a 11), .inr (2, [.ref (a 12)])), ((a 12), .inl (D.1 5, 40, .inl g5)), ((a 13), .inr (2, [.ref (a 14)])), ((a 14), .inl (D.1 5, 40, .inl g6))] dX1_sweep_51 rfl rfl inlX1 tyX1_ok nmX1 (by decide) wq_7_1 rfl rfl rfl (Nat.le_of_ble_eq_true rfl) rfl ?_
            refine k_aload_n hC 54 dX1_sweep_54 rfl ?_
            refine k_getf hC 55 0 5 dX1_sweep_55 rfl rfl inlX1 (by decide) wq_2_9 rfl ?_
            refine k_iload hC 58 dX1_sweep_58 rfl ?_
            refine k_callVr hC 60 11 [11, 12] (c_X2_of l D (a 11) (a 12) g5 k hk) cw_RX1_81 dX1_sweep_60 ⟨Nat.le_of_ble_eq_true rfl, Nat.le_of_ble_eq_true rfl, Nat.le_of_ble_eq_true rfl, Nat.le_of_ble_eq_true rfl⟩ rfl (Nat.le_of_ble_eq_true rfl) rfl rfl rfl (by decide) rfl (fun _ => Nat.le_of_ble_eq_true rfl) (fun _ => rfl) _ rfl (fun v u hp => ?_)
            obtain rfl := hp
            refine KJ.eqs (st' := .int (g5 k) :: []) rfl ?_
            refine KJ.topi (y := (nI (pi k))) (r5 k hk) ?_
            refine n_if_le hC 63 75 dX1_sweep_63 (by decide) (Nat.lt_of_le_of_lt (p9 k) (by decide)) (fun hp => ?_) (fun hp => ?_)
            · skip
              refine k_aload_n hC 75 dX1_sweep_75 rfl ?_
              refine k_getf hC 76 0 4 dX1_sweep_76 rfl rfl inlX1 (by decide) wq_2_8 rfl ?_
              refine k_iload hC 79 dX1_sweep_79 rfl ?_
              refine k_callVr hC 81 9 [9, 10] (c_X2_of l D (a 9) (a 10) g4 k hk) cw_RX1_81 dX1_sweep_81 ⟨Nat.le_of_ble_eq_true rfl, Nat.le_of_ble_eq_true rfl, Nat.le_of_ble_eq_true rfl, Nat.le_of_ble_eq_true rfl⟩ rfl (Nat.le_of_ble_eq_true rfl) rfl rfl rfl (by decide) rfl (fun _ => Nat.le_of_ble_eq_true rfl) (fun _ => rfl) _ rfl (fun v u hp => ?_)
              obtain rfl := hp
              refine KJ.eqs (st' := .int (g4 k) :: []) rfl ?_
              refine KJ.topi (y := (nI (to k))) (r4 k hk) ?_
              refine n_if_le hC 84 109 dX1_sweep_84 (by decide) (Nat.lt_of_le_of_lt (t1 k) (by decide)) (fun ht => ?_) (fun ht => ?_)
              · skip
                refine k_aload_n hC 109 dX1_sweep_109 rfl ?_
                refine k_iload_n hC 110 dX1_sweep_110 rfl ?_
                have e := lk_1l (A := A) (B := B) (to := to) (fe := fe) (pl := pl) (hi := hi) (mi := mi) (re := re) (lo := lo) hg hp ht
                refine k_callVr hC 111 0 [0, 1, 2, 3, 4, 5, 6, 7, 8, 9, 10, 11, 12, 13, 14] (c_X1_listOf1 l D a N T' A B to pi fe pl go hi mi re (lo + 1) g0 x g2 g3 g4 g5 g6 ⟨r0, hx, r2, r3, r4, r5, r6⟩ (wf_tl1 hW0)) cw_RX1_145 dX1_sweep_111 ⟨Nat.le_of_ble_eq_true rfl, Nat.le_of_ble_eq_true rfl, Nat.le_of_ble_eq_true rfl, Nat.le_of_ble_eq_true rfl⟩ rfl (Nat.le_of_ble_eq_true rfl) rfl rfl rfl (by decide) rfl (fun _ => Nat.le_of_ble_eq_true rfl) (fun _ => rfl) _ rfl (fun v u hp => ?_)
                obtain rfl := hp
                refine KJ.eqs (st' := .ref (a 7) :: []) rfl ?_
                refine k_iload hC 114 dX1_sweep_114 rfl ?_
                refine k_callV hC 116 7 [7, 8] (fun y => [((a 0), .inr (1, [.ref (a 1), .ref (a 3), .ref (a 5), .ref (a 7), .ref (a 9), .ref (a 11), .ref (a 13), .int (nI pl), .int (nI go), .int hi, .int mi, .int re, .int (lo + 1)])), ((a 1), .inr (0, [.ref (a 2), .int (nI N.length)])), ((a 2), .inl (D.1 5, 40, .inl g0)), ((a 3), .inr (0, [.ref (a 4), .int (nI T'.length)])), ((a 4), .inl (D.1 5, 40, .inl x)), ((a 5), .inr (0, [.ref (a 6), .int (nI A.length)])), ((a 6), .inl (D.1 5, 40, .inl g2)), ((a 7), .inr (0, [.ref (a 8), .int (nI ((B ++ [k]).length))])), ((a 8), .inl (D.1 5, 40, .inl y)), ((a 9), .inr (2, [.ref (a 10)])), ((a 10), .inl (D.1 5, 40, .inl g4)), ((a 11), .inr (2, [.ref (a 12)])), ((a 12), .inl (D.1 5, 40, .inl g5)), ((a 13), .inr (2, [.ref (a 14)])), ((a 14), .inl (D.1 5, 40, .inl g6))]) (c_X0_append l D (a 7) (a 8) B g3 k r3 (by omega) hk) cw_RX1_134 dX1_sweep_116 ⟨Nat.le_of_ble_eq_true rfl, Nat.le_of_ble_eq_true rfl, Nat.le_of_ble_eq_true rfl, Nat.le_of_ble_eq_true rfl⟩ rfl (Nat.le_of_ble_eq_true rfl) rfl rfl rfl (by decide) rfl (fun _ => Nat.le_of_ble_eq_true rfl) (fun _ => rfl) _ rfl (fun v y hp => ?_)
                obtain ⟨rfl, hy⟩ := hp
                refine KJ.eqs (st' := []) rfl ?_
                refine k_aload_n hC 119 dX1_sweep_119 rfl ?_
                refine k_iload_n hC 120 dX1_sweep_120 rfl ?_
                refine k_callVr hC 121 0 [0, 1, 2, 3, 4, 5, 6, 7, 8, 9, 10, 11, 12, 13, 14] (c_X1_listOf1q l D a N T' A (B ++ [k]) to pi fe pl go hi mi re (lo + 1) g0 x g2 y g4 g5 g6) cw_RX1_145 dX1_sweep_121 ⟨Nat.le_of_ble_eq_true rfl, Nat.le_of_ble_eq_true rfl, Nat.le_of_ble_eq_true rfl, Nat.le_of_ble_eq_true rfl⟩ rfl (Nat.le_of_ble_eq_true rfl) rfl rfl rfl (by decide) rfl (fun _ => Nat.le_of_ble_eq_true rfl) (fun _ => rfl) _ rfl (fun v u hp => ?_)
                obtain rfl := hp
                refine KJ.eqs (st' := .ref (a 7) :: []) rfl ?_
                refine k_aload_n hC 124 dX1_sweep_124 rfl ?_
                refine k_getf hC 125 0 7 dX1_sweep_125 rfl rfl inlX1 (by decide) wq_2_11 rfl ?_
                refine k_callV hC 128 7 [7, 8] (fun z => [((a 0), .inr (1, [.ref (a 1), .ref (a 3), .ref (a 5), .ref (a 7), .ref (a 9), .ref (a 11), .ref (a 13), .int (nI pl), .int (nI go), .int hi, .int mi, .int re, .int (lo + 1)])), ((a 1), .inr (0, [.ref (a 2), .int (nI N.length)])), ((a 2), .inl (D.1 5, 40, .inl g0)), ((a 3), .inr (0, [.ref (a 4), .int (nI T'.length)])), ((a 4), .inl (D.1 5, 40, .inl x)), ((a 5), .inr (0, [.ref (a 6), .int (nI A.length)])), ((a 6), .inl (D.1 5, 40, .inl g2)), ((a 7), .inr (0, [.ref (a 8), .int (nI ((tr pl (B ++ [k])).length))])), ((a 8), .inl (D.1 5, 40, .inl z)), ((a 9), .inr (2, [.ref (a 10)])), ((a 10), .inl (D.1 5, 40, .inl g4)), ((a 11), .inr (2, [.ref (a 12)])), ((a 12), .inl (D.1 5, 40, .inl g5)), ((a 13), .inr (2, [.ref (a 14)])), ((a 14), .inl (D.1 5, 40, .inl g6))]) (c_X0_forgetEldest l D (a 7) (a 8) (B ++ [k]) y pl hy (by rw [List.length_append, List.length_singleton]; omega) (kB.push hk) (by omega)) cw_RX1_148 dX1_sweep_128 ⟨Nat.le_of_ble_eq_true rfl, Nat.le_of_ble_eq_true rfl, Nat.le_of_ble_eq_true rfl, Nat.le_of_ble_eq_true rfl⟩ rfl (Nat.le_of_ble_eq_true rfl) rfl rfl rfl (by decide) rfl (fun _ => Nat.le_of_ble_eq_true rfl) (fun _ => rfl) _ rfl (fun v z hp => ?_)
                obtain ⟨rfl, hz⟩ := hp
                refine KJ.eqs (st' := []) rfl ?_
                refine k_iload hC 131 dX1_sweep_131 rfl ?_
                exact k_iret hC hE 133 ((N, T', A, (tr pl (B ++ [k])), to, pi, fe, pl, go, hi, mi, re, lo + 1), (g0, x, g2, z, g4, g5, g6)) dX1_sweep_133 rfl (⟨by rw [(swN_e hsw e).2], (swN_e hsw e).1, r0, hx, r2, hz, r4, r5, r6⟩) rfl ⟨Nat.zero_le _, Nat.zero_le _⟩
              · skip
                refine k_aload_n hC 87 dX1_sweep_87 rfl ?_
                refine k_getf hC 88 0 4 dX1_sweep_88 rfl rfl inlX1 (by decide) wq_2_8 rfl ?_
                refine k_iload hC 91 dX1_sweep_91 rfl ?_
                refine k_iconst hC 93 dX1_sweep_93 (nI 0) (by decide) ?_
                refine k_callV hC 94 9 [9, 10] (fun _ => [((a 0), .inr (1, [.ref (a 1), .ref (a 3), .ref (a 5), .ref (a 7), .ref (a 9), .ref (a 11), .ref (a 13), .int (nI pl), .int (nI go), .int hi, .int mi, .int re, .int (lo + 1)])), ((a 1), .inr (0, [.ref (a 2), .int (nI N.length)])), ((a 2), .inl (D.1 5, 40, .inl g0)), ((a 3), .inr (0, [.ref (a 4), .int (nI T'.length)])), ((a 4), .inl (D.1 5, 40, .inl x)), ((a 5), .inr (0, [.ref (a 6), .int (nI A.length)])), ((a 6), .inl (D.1 5, 40, .inl g2)), ((a 7), .inr (0, [.ref (a 8), .int (nI B.length)])), ((a 8), .inl (D.1 5, 40, .inl g3)), ((a 9), .inr (2, [.ref (a 10)])), ((a 10), .inl (D.1 5, 40, .inl (upd g4 k (nI 0)))), ((a 11), .inr (2, [.ref (a 12)])), ((a 12), .inl (D.1 5, 40, .inl g5)), ((a 13), .inr (2, [.ref (a 14)])), ((a 14), .inl (D.1 5, 40, .inl g6))]) (c_X2_put l D (a 9) (a 10) g4 k (nI 0) hk) cw_RX1_97 dX1_sweep_94 ⟨Nat.le_of_ble_eq_true rfl, Nat.le_of_ble_eq_true rfl, Nat.le_of_ble_eq_true rfl, Nat.le_of_ble_eq_true rfl⟩ rfl (Nat.le_of_ble_eq_true rfl) rfl rfl rfl (by decide) rfl (fun _ => Nat.le_of_ble_eq_true rfl) (fun _ => rfl) _ rfl (fun v _ hp => ?_)
                obtain rfl := hp
                refine KJ.eqs (st' := []) rfl ?_
                refine k_aload_n hC 97 dX1_sweep_97 rfl ?_
                refine k_getf hC 98 0 1 dX1_sweep_98 rfl rfl inlX1 (by decide) wq_2_2 rfl ?_
                refine k_iload hC 101 dX1_sweep_101 rfl ?_
                refine k_callV hC 103 3 [3, 4] (fun y => [((a 0), .inr (1, [.ref (a 1), .ref (a 3), .ref (a 5), .ref (a 7), .ref (a 9), .ref (a 11), .ref (a 13), .int (nI pl), .int (nI go), .int hi, .int mi, .int re, .int (lo + 1)])), ((a 1), .inr (0, [.ref (a 2), .int (nI N.length)])), ((a 2), .inl (D.1 5, 40, .inl g0)), ((a 3), .inr (0, [.ref (a 4), .int (nI ((T' ++ [k]).length))])), ((a 4), .inl (D.1 5, 40, .inl y)), ((a 5), .inr (0, [.ref (a 6), .int (nI A.length)])), ((a 6), .inl (D.1 5, 40, .inl g2)), ((a 7), .inr (0, [.ref (a 8), .int (nI B.length)])), ((a 8), .inl (D.1 5, 40, .inl g3)), ((a 9), .inr (2, [.ref (a 10)])), ((a 10), .inl (D.1 5, 40, .inl (upd g4 k (nI 0)))), ((a 11), .inr (2, [.ref (a 12)])), ((a 12), .inl (D.1 5, 40, .inl g5)), ((a 13), .inr (2, [.ref (a 14)])), ((a 14), .inl (D.1 5, 40, .inl g6))]) (c_X0_append l D (a 3) (a 4) T' x k hx (by omega) hk) cw_RX1_134 dX1_sweep_103 ⟨Nat.le_of_ble_eq_true rfl, Nat.le_of_ble_eq_true rfl, Nat.le_of_ble_eq_true rfl, Nat.le_of_ble_eq_true rfl⟩ rfl (Nat.le_of_ble_eq_true rfl) rfl rfl rfl (by decide) rfl (fun _ => Nat.le_of_ble_eq_true rfl) (fun _ => rfl) _ rfl (fun v y hp => ?_)
                obtain ⟨rfl, hy⟩ := hp
                refine KJ.eqs (st' := []) rfl ?_
                refine k_goto hC 106 134 dX1_sweep_106 (by decide) ?_
                refine k_iinc hC 134 3 (nI (i + 1)) [(1, .int (nI (i + 1))), (4, .int (nI k)), (3, .ref (a 3)), (2, .int (nI 1)), (0, .ref (a 0))] dX1_sweep_134 rfl (nI_1 _) (by decide) rfl ?_
                refine k_goto hC 137 15 dX1_sweep_137 (by decide) ?_
                refine KJ.lvp [0, 4] rfl ?_
                have e := lk_1t (A := A) (B := B) (to := to) (fe := fe) (pl := pl) (hi := hi) (mi := mi) (re := re) (lo := lo) hg hp ht
                have w2 := lk_wf hW0 hpj
                have j2 := lk_pj (s := (N, (k :: T'), A, B, to, pi, fe, pl, go, hi, mi, re, lo)) hpj
                rw [e] at w2 j2
                exact ih15 n (i + 1) N (T' ++ [k]) A B (va_up to k 0) pi fe pl go hi mi re (lo + 1) g0 y g2 g3 (upd g4 k (nI 0)) g5 g6 (by omega) (by omega) ⟨r0, hy, r2, r3, tup r4 k 0, r5, r6⟩ w2 (swN_n hsw e) (by have j3 := j2.1; have j4 := j2.2.1; simp only [pnd, jrs, if_true] at j3 j4; omega)
            · skip
              refine k_aload_n hC 66 dX1_sweep_66 rfl ?_
              refine k_iload hC 67 dX1_sweep_67 rfl ?_
              refine k_callV hC 69 3 [3, 4] (fun y => [((a 0), .inr (1, [.ref (a 1), .ref (a 3), .ref (a 5), .ref (a 7), .ref (a 9), .ref (a 11), .ref (a 13), .int (nI pl), .int (nI go), .int hi, .int mi, .int re, .int (lo + 1)])), ((a 1), .inr (0, [.ref (a 2), .int (nI N.length)])), ((a 2), .inl (D.1 5, 40, .inl g0)), ((a 3), .inr (0, [.ref (a 4), .int (nI ((T' ++ [k]).length))])), ((a 4), .inl (D.1 5, 40, .inl y)), ((a 5), .inr (0, [.ref (a 6), .int (nI A.length)])), ((a 6), .inl (D.1 5, 40, .inl g2)), ((a 7), .inr (0, [.ref (a 8), .int (nI B.length)])), ((a 8), .inl (D.1 5, 40, .inl g3)), ((a 9), .inr (2, [.ref (a 10)])), ((a 10), .inl (D.1 5, 40, .inl g4)), ((a 11), .inr (2, [.ref (a 12)])), ((a 12), .inl (D.1 5, 40, .inl g5)), ((a 13), .inr (2, [.ref (a 14)])), ((a 14), .inl (D.1 5, 40, .inl g6))]) (c_X0_append l D (a 3) (a 4) T' x k hx (by omega) hk) cw_RX1_134 dX1_sweep_69 ⟨Nat.le_of_ble_eq_true rfl, Nat.le_of_ble_eq_true rfl, Nat.le_of_ble_eq_true rfl, Nat.le_of_ble_eq_true rfl⟩ rfl (Nat.le_of_ble_eq_true rfl) rfl rfl rfl (by decide) rfl (fun _ => Nat.le_of_ble_eq_true rfl) (fun _ => rfl) _ rfl (fun v y hp => ?_)
              obtain ⟨rfl, hy⟩ := hp
              refine KJ.eqs (st' := []) rfl ?_
              refine k_goto hC 72 134 dX1_sweep_72 (by decide) ?_
              refine k_iinc hC 134 3 (nI (i + 1)) [(1, .int (nI (i + 1))), (4, .int (nI k)), (3, .ref (a 3)), (2, .int (nI 1)), (0, .ref (a 0))] dX1_sweep_134 rfl (nI_1 _) (by decide) rfl ?_
              refine k_goto hC 137 15 dX1_sweep_137 (by decide) ?_
              refine KJ.lvp [0, 4] rfl ?_
              have e := lk_1p (A := A) (B := B) (to := to) (fe := fe) (pl := pl) (hi := hi) (mi := mi) (re := re) (lo := lo) hg hp
              have w2 := lk_wf hW0 hpj
              have j2 := lk_pj (s := (N, (k :: T'), A, B, to, pi, fe, pl, go, hi, mi, re, lo)) hpj
              rw [e] at w2 j2
              exact ih15 n (i + 1) N (T' ++ [k]) A B to pi fe pl go hi mi re (lo + 1) g0 y g2 g3 g4 g5 g6 (by omega) (by omega) ⟨r0, hy, r2, r3, r4, r5, r6⟩ w2 (swN_n hsw e) (by have j3 := j2.1; have j4 := j2.2.1; simp only [pnd, jrs, if_true] at j3 j4; omega)
    exact loop15 (n + 1) n 0 N T A B to pi fe pl go hi mi re lo g0 g1 g2 g3 g4 g5 g6 (by omega) (by omega) hS0 hW0 hsw hpj
  · skip
    exact absurd h8 (by omega)
end
section
/-! SWEEPING COMES TO ITS END -/
def tch (to pi : Nat → Nat) (L : List Nat) : Nat := L.countP (fun k => decide (pi k = 0 ∧ 0 < to k))
def fi (pi : Nat → Nat) (L : List Nat) : Nat := L.findIdx (fun k => decide (pi k = 0))
def mu : PS → Nat
  | (N, T, _, _, to, pi, _, _, go, _) => 13 * (tch to pi N + tch to pi T) + (if gv N T pi go = 0 then fi pi N else fi pi T)
theorem tch_cons (to pi : Nat → Nat) (k : Nat) (L : List Nat) : tch to pi (k :: L) = tch to pi L + (if pi k = 0 ∧ 0 < to k then 1 else 0) := by
  unfold tch
  rw [List.countP_cons]
  by_cases e : pi k = 0 ∧ 0 < to k <;> simp [e]
theorem tch_snoc (to pi : Nat → Nat) (k : Nat) (L : List Nat) : tch to pi (L ++ [k]) = tch to pi L + (if pi k = 0 ∧ 0 < to k then 1 else 0) := by
  unfold tch
  rw [List.countP_append, List.countP_singleton]
  by_cases e : pi k = 0 ∧ 0 < to k <;> simp [e]
theorem tch_up {to pi : Nat → Nat} {k : Nat} {L : List Nat} (h : k ∉ L) : tch (va_up to k 0) pi L = tch to pi L := by
  unfold tch
  refine List.countP_congr (fun x hx => ?_)
  have e : x ≠ k := fun z => h (z ▸ hx)
  simp [va_up, e]
theorem tch_le (to pi : Nat → Nat) (L : List Nat) : tch to pi L ≤ L.length := List.countP_le_length
theorem fi_le (pi : Nat → Nat) (L : List Nat) : fi pi L ≤ L.length := List.findIdx_le_length
theorem fi_pin {pi : Nat → Nat} {k : Nat} {L : List Nat} (hp : 0 < pi k) (h : pc pi L < L.length) : fi pi (L ++ [k]) + 1 = fi pi (k :: L) := by
  unfold fi
  have h0 : decide (pi k = 0) = false := decide_eq_false (by omega)
  rw [List.findIdx_cons, h0]
  have hex : ∃ x ∈ L, decide (pi x = 0) = true := by
    refine Classical.byContradiction (fun z => ?_)
    have h2 : pc pi L = L.length := List.countP_eq_length.mpr (fun x hx => by
      have : ¬ pi x = 0 := fun e => z ⟨x, hx, decide_eq_true e⟩
      exact decide_eq_true (by omega))
    omega
  have h3 : L.findIdx (fun k => decide (pi k = 0)) < L.length := List.findIdx_lt_length_of_exists hex
  rw [List.findIdx_append, if_pos h3]
  rfl
theorem gv_eq {N T N2 T2 : List Nat} {pi : Nat → Nat} {go : Nat} (h1 : pc pi N2 = pc pi N) (h2 : N2.length = N.length) (h3 : pc pi T2 = pc pi T) (h4 : T2.length = T.length) : gv N2 T2 pi go = gv N T pi go := by
  unfold gv
  rw [h1, h2, h3, h4]
theorem gv_0c {N T : List Nat} {pi : Nat → Nat} {go : Nat} (h : gv N T pi go = 0) : pc pi N < N.length := by
  unfold gv at h
  split at h
  · rename_i z; exact z.1
  · cases h
theorem gv_1c {N T : List Nat} {pi : Nat → Nat} {go : Nat} (h : gv N T pi go = 1) (hp : pc pi N + pc pi T < N.length + T.length) : pc pi T < T.length := by
  unfold gv at h
  split at h
  · cases h
  · rename_i z
    have := pc_le pi N
    have := pc_le pi T
    refine Classical.byContradiction (fun y => z ⟨by omega, Or.inr (by omega)⟩)
theorem mu_lt {s : PS} (h : WF s) (hpj : pnd s < jrs s) (hn : (lk s).2 = none) : mu (lk s).1 < mu s := by
  obtain ⟨N, T, A, B, to, pi, fe, pl, go, hi, mi, re, lo⟩ := s
  obtain ⟨kN, kT, kA, kB, nd, len, lA, lB, p2, p12, g12, t1, p9⟩ := h
  have six := lk_six (N := N) (T := T) (pi := pi) (to := to) (go := go) hpj
  rcases six with ⟨k, N', rfl, hg, h | h | h⟩ | ⟨k, T', rfl, hg, h | h | h⟩
  · have hc := gv_0c hg
    rw [pc_cons, if_pos h, List.length_cons] at hc
    have hf := fi_pin h (L := N') (by omega)
    have hg2 : gv (N' ++ [k]) T pi go = 0 := (gv_eq (by rw [pc_cons, pc_snoc]) (by simp) rfl rfl).trans hg
    rw [lk_0p hg h]
    show 13 * (tch to pi (N' ++ [k]) + tch to pi T) + (if gv (N' ++ [k]) T pi go = 0 then fi pi (N' ++ [k]) else fi pi T) < 13 * (tch to pi (k :: N') + tch to pi T) + (if gv (k :: N') T pi go = 0 then fi pi (k :: N') else fi pi T)
    rw [if_pos hg, if_pos hg2, tch_cons, tch_snoc]
    omega
  · rw [lk_0t hg h.1 h.2]
    have hk1 : k ∉ N' ++ T := (List.nodup_cons.mp nd).1
    have hk2 : k ∉ N' := fun z => hk1 (List.mem_append_left _ z)
    have hk3 : k ∉ T := fun z => hk1 (List.mem_append_right _ z)
    show 13 * (tch (va_up to k 0) pi N' + tch (va_up to k 0) pi (T ++ [k])) + (if gv N' (T ++ [k]) pi go = 0 then fi pi N' else fi pi (T ++ [k])) < 13 * (tch to pi (k :: N') + tch to pi T) + (if gv (k :: N') T pi go = 0 then fi pi (k :: N') else fi pi T)
    have f1 := fi_le pi N'
    have f2 := fi_le pi (T ++ [k])
    rw [tch_cons, tch_snoc, tch_up hk2, tch_up hk3, if_pos h, if_neg (by simp [va_up])]
    simp only [List.length_append, List.length_cons, List.length_nil] at len f1 f2
    split <;> (first | omega | (split <;> omega))
  · rw [lk_0l hg h.1 h.2] at hn
    cases hn
  · have hc := gv_1c hg hpj
    rw [pc_cons, if_pos h, List.length_cons] at hc
    have hf := fi_pin h (L := T') (by omega)
    have hg2 : gv N (T' ++ [k]) pi go = 1 := (gv_eq rfl rfl (by rw [pc_cons, pc_snoc]) (by simp)).trans hg
    rw [lk_1p hg h]
    show 13 * (tch to pi N + tch to pi (T' ++ [k])) + (if gv N (T' ++ [k]) pi go = 0 then fi pi N else fi pi (T' ++ [k])) < 13 * (tch to pi N + tch to pi (k :: T')) + (if gv N (k :: T') pi go = 0 then fi pi N else fi pi (k :: T'))
    rw [if_neg (by omega), if_neg (by omega), tch_cons, tch_snoc]
    omega
  · rw [lk_1t hg h.1 h.2]
    have hk0 : k ∉ T' ∧ k ∉ N := by
      have h1 := List.nodup_append.mp nd
      exact ⟨(List.nodup_cons.mp h1.2.1).1, fun z => h1.2.2 k z k List.mem_cons_self rfl⟩
    show 13 * (tch (va_up to k 0) pi N + tch (va_up to k 0) pi (T' ++ [k])) + (if gv N (T' ++ [k]) pi go = 0 then fi pi N else fi pi (T' ++ [k])) < 13 * (tch to pi N + tch to pi (k :: T')) + (if gv N (k :: T') pi go = 0 then fi pi N else fi pi (k :: T'))
    have f1 := fi_le pi N
    have f2 := fi_le pi (T' ++ [k])
    rw [tch_cons, tch_snoc, tch_up hk0.1, tch_up hk0.2, if_pos h, if_neg (by simp [va_up])]
    simp only [List.length_append, List.length_cons, List.length_nil] at len f1 f2
    split <;> (first | omega | (split <;> omega))
  · rw [lk_1l hg h.1 h.2] at hn
    cases hn
theorem mu_le {s : PS} (h : WF s) : mu s < 200 := by
  obtain ⟨N, T, A, B, to, pi, fe, pl, go, hi, mi, re, lo⟩ := s
  obtain ⟨kN, kT, kA, kB, nd, len, -⟩ := h
  show 13 * (tch to pi N + tch to pi T) + (if gv N T pi go = 0 then fi pi N else fi pi T) < 200
  have h1 := tch_le to pi N
  have h2 := tch_le to pi T
  have h3 := fi_le pi N
  have h4 := fi_le pi T
  split <;> omega
theorem swN_ok : ∀ (n : Nat) (s : PS), WF s → pnd s < jrs s → mu s < n → ∃ r : PS × Nat, swN n s = some r ∧ WF r.1 ∧ pnd r.1 = pnd s ∧ jrs r.1 + 1 = jrs s ∧ plS r.1 = plS s
  | 0, _, _, _, h => absurd h (Nat.not_lt_zero _)
  | n + 1, s, hW, hpj, hm => by
    have w := lk_wf hW hpj
    have pj := lk_pj hpj
    cases hl : lk s with
    | mk s1 o =>
      rw [hl] at w pj
      cases o with
      | some k => exact ⟨(s1, k), by simp only [swN, hl], w, pj.1, by simpa using pj.2.1, pj.2.2⟩
      | none =>
        have hlt := mu_lt hW hpj (by rw [hl])
        rw [hl] at hlt
        have j1 : jrs s1 = jrs s := by simpa using pj.2.1
        have hlt' : mu s1 < mu s := hlt
        obtain ⟨r, r1, r2, r3, r4, r5⟩ := swN_ok n s1 w (by rw [pj.1, j1]; exact hpj) (by omega)
        exact ⟨r, by simp only [swN, hl]; exact r1, r2, r3.trans pj.1, by rw [r4]; exact j1, r5.trans pj.2.2⟩
/-- what sweeping is, where some jar is not pinned -/
theorem sw_ok {s : PS} (h : WF s) (hpj : pnd s < jrs s) : swN 200 s = some ((sw s).1, (sw s).2) ∧ WF (sw s).1 ∧ pnd (sw s).1 = pnd s ∧ jrs (sw s).1 + 1 = jrs s ∧ plS (sw s).1 = plS s := by
  obtain ⟨r, h1, h2, h3, h4, h5⟩ := swN_ok 200 s h hpj (mu_le h)
  have e : sw s = r := by unfold sw; rw [h1]; rfl
  rw [e]
  exact ⟨h1, h2, h3, h4, h5⟩
theorem oc_lt (s : PS) (k : Nat) : oc s k < 5 := by
  obtain ⟨N, T, A, B, to, pi, fe, pl, go, hi, mi, re, lo⟩ := s
  show (if _ then _ else _) < 5
  split
  · omega
  · split
    · omega
    · split
      · omega
      · split <;> omega
theorem oc_2 {s : PS} {k : Nat} (h : oc s k = 2) : k ∈ s.2.2.1 := by
  obtain ⟨N, T, A, B, to, pi, fe, pl, go, hi, mi, re, lo⟩ := s
  have h' : (if k ∈ N ∨ k ∈ T then 0 else if pl ≤ N.length + T.length ∧ N.length + T.length ≤ pc pi N + pc pi T then 4 else if k ∈ A then 2 else if k ∈ B then 3 else 1) = 2 := h
  by_cases h1 : k ∈ N ∨ k ∈ T
  · rw [if_pos h1] at h'; cases h'
  · rw [if_neg h1] at h'
    by_cases h2 : pl ≤ N.length + T.length ∧ N.length + T.length ≤ pc pi N + pc pi T
    · rw [if_pos h2] at h'; cases h'
    · rw [if_neg h2] at h'
      by_cases h3 : k ∈ A
      · exact h3
      · rw [if_neg h3] at h'
        split at h' <;> cases h'
theorem oc_3 {s : PS} {k : Nat} (h : oc s k = 3) : k ∈ s.2.2.2.1 := by
  obtain ⟨N, T, A, B, to, pi, fe, pl, go, hi, mi, re, lo⟩ := s
  have h' : (if k ∈ N ∨ k ∈ T then 0 else if pl ≤ N.length + T.length ∧ N.length + T.length ≤ pc pi N + pc pi T then 4 else if k ∈ A then 2 else if k ∈ B then 3 else 1) = 3 := h
  by_cases h1 : k ∈ N ∨ k ∈ T
  · rw [if_pos h1] at h'; cases h'
  · rw [if_neg h1] at h'
    by_cases h2 : pl ≤ N.length + T.length ∧ N.length + T.length ≤ pc pi N + pc pi T
    · rw [if_pos h2] at h'; cases h'
    · rw [if_neg h2] at h'
      by_cases h3 : k ∈ A
      · rw [if_pos h3] at h'; cases h'
      · rw [if_neg h3] at h'
        by_cases h4 : k ∈ B
        · exact h4
        · rw [if_neg h4] at h'; cases h'
/-- not there, and there is room or some jar that is not pinned -/
theorem oc_m {s : PS} {k : Nat} (h0 : oc s k ≠ 0) (h4 : oc s k ≠ 4) : (k ∉ s.1 ∧ k ∉ s.2.1) ∧ (plS s ≤ jrs s → pnd s < jrs s) := by
  obtain ⟨N, T, A, B, to, pi, fe, pl, go, hi, mi, re, lo⟩ := s
  have e : oc (N, T, A, B, to, pi, fe, pl, go, hi, mi, re, lo) k = (if k ∈ N ∨ k ∈ T then 0 else if pl ≤ N.length + T.length ∧ N.length + T.length ≤ pc pi N + pc pi T then 4 else if k ∈ A then 2 else if k ∈ B then 3 else 1) := rfl
  rw [e] at h0 h4
  by_cases h1 : k ∈ N ∨ k ∈ T
  · rw [if_pos h1] at h0; exact absurd rfl h0
  · rw [if_neg h1] at h4
    by_cases h2 : pl ≤ N.length + T.length ∧ N.length + T.length ≤ pc pi N + pc pi T
    · rw [if_pos h2] at h4; exact absurd rfl h4
    · refine ⟨⟨fun z => h1 (Or.inl z), fun z => h1 (Or.inr z)⟩, fun h => ?_⟩
      have h' : pl ≤ N.length + T.length := h
      show pc pi N + pc pi T < N.length + T.length
      omega
theorem br_4 {s : PS} {k : Nat} (h : oc s k = 4) : br s k = s := by unfold br; rw [h]; rfl
theorem br_0 {s : PS} {k : Nat} (h : oc s k = 0) : br s k = hitS s k := by unfold br; rw [h]; rfl
theorem br_m {s : PS} {k o : Nat} (h : oc s k = o) (h0 : o ≠ 0) (h4 : o ≠ 4) : br s k = plc (if plS (rcl (missS s) k o) ≤ jrs (rcl (missS s) k o) then (sw (rcl (missS s) k o)).1 else rcl (missS s) k o) k o := by
  unfold br
  rw [h]
  show (if o = 4 then _ else _) = _
  rw [if_neg h4, if_neg h0]
theorem rcl_keep (s : PS) (k o : Nat) : (rcl s k o).1 = s.1 ∧ (rcl s k o).2.1 = s.2.1 ∧ jrs (rcl s k o) = jrs s ∧ pnd (rcl s k o) = pnd s ∧ plS (rcl s k o) = plS s := by
  obtain ⟨N, T, A, B, to, pi, fe, pl, go, hi, mi, re, lo⟩ := s
  unfold rcl
  dsimp only
  split
  · exact ⟨rfl, rfl, rfl, rfl, rfl⟩
  · split
    · exact ⟨rfl, rfl, rfl, rfl, rfl⟩
    · exact ⟨rfl, rfl, rfl, rfl, rfl⟩
theorem rcl_wf {s : PS} (h : WF s) (k o : Nat) : WF (rcl s k o) := by
  obtain ⟨N, T, A, B, to, pi, fe, pl, go, hi, mi, re, lo⟩ := s
  obtain ⟨kN, kT, kA, kB, nd, len, lA, lB, p2, p12, g12, t1, p9⟩ := h
  have hA := List.length_eraseIdx_le (l := A) (i := A.idxOf k)
  have hB := List.length_eraseIdx_le (l := B) (i := B.idxOf k)
  unfold rcl
  dsimp only
  split
  · exact ⟨kN, kT, kA.cut _, kB, nd, len, by omega, lB, p2, p12, by omega, t1, p9⟩
  · split
    · exact ⟨kN, kT, kA, kB.cut _, nd, len, lA, by omega, p2, p12, by omega, t1, p9⟩
    · exact ⟨kN, kT, kA, kB, nd, len, lA, lB, p2, p12, g12, t1, p9⟩
theorem missS_wf {s : PS} (h : WF s) : WF (missS s) := h
theorem hitS_wf {s : PS} (h : WF s) (k : Nat) : WF (hitS s k) := by
  obtain ⟨N, T, A, B, to, pi, fe, pl, go, hi, mi, re, lo⟩ := s
  obtain ⟨kN, kT, kA, kB, nd, len, lA, lB, p2, p12, g12, t1, p9⟩ := h
  exact ⟨kN, kT, kA, kB, nd, len, lA, lB, p2, p12, g12, up_le t1 k 1 (by omega), p9⟩
end
section
theorem lk_mem {s : PS} (hpj : pnd s < jrs s) : ∀ x : Nat, x ∈ (lk s).1.1 ++ (lk s).1.2.1 → x ∈ s.1 ++ s.2.1 := by
  obtain ⟨N, T, A, B, to, pi, fe, pl, go, hi, mi, re, lo⟩ := s
  intro x
  rcases lk_six (N := N) (T := T) (pi := pi) (to := to) (go := go) hpj with ⟨k, N', rfl, hg, h | h | h⟩ | ⟨k, T', rfl, hg, h | h | h⟩
  · rw [lk_0p hg h]
    intro hx
    simp only [List.mem_append, List.mem_cons, List.not_mem_nil, or_false] at hx ⊢
    rcases hx with (hx | hx) | hx
    · exact Or.inl (Or.inr hx)
    · exact Or.inl (Or.inl hx)
    · exact Or.inr hx
  · rw [lk_0t hg h.1 h.2]
    intro hx
    simp only [List.mem_append, List.mem_cons, List.not_mem_nil, or_false] at hx ⊢
    rcases hx with hx | (hx | hx)
    · exact Or.inl (Or.inr hx)
    · exact Or.inr hx
    · exact Or.inl (Or.inl hx)
  · rw [lk_0l hg h.1 h.2]
    intro hx
    simp only [List.mem_append, List.mem_cons, List.not_mem_nil, or_false] at hx ⊢
    rcases hx with hx | hx
    · exact Or.inl (Or.inr hx)
    · exact Or.inr hx
  · rw [lk_1p hg h]
    intro hx
    simp only [List.mem_append, List.mem_cons, List.not_mem_nil, or_false] at hx ⊢
    rcases hx with hx | (hx | hx)
    · exact Or.inl hx
    · exact Or.inr (Or.inr hx)
    · exact Or.inr (Or.inl hx)
  · rw [lk_1t hg h.1 h.2]
    intro hx
    simp only [List.mem_append, List.mem_cons, List.not_mem_nil, or_false] at hx ⊢
    rcases hx with hx | (hx | hx)
    · exact Or.inl hx
    · exact Or.inr (Or.inr hx)
    · exact Or.inr (Or.inl hx)
  · rw [lk_1l hg h.1 h.2]
    intro hx
    simp only [List.mem_append, List.mem_cons, List.not_mem_nil, or_false] at hx ⊢
    rcases hx with hx | hx
    · exact Or.inl hx
    · exact Or.inr (Or.inr hx)
theorem swN_mem : ∀ (n : Nat) (s : PS) (r : PS × Nat), WF s → pnd s < jrs s → swN n s = some r → ∀ x : Nat, x ∈ r.1.1 ++ r.1.2.1 → x ∈ s.1 ++ s.2.1
  | 0, _, _, _, _, h => by cases h
  | n + 1, s, r, hW, hpj, h => by
    have w := lk_wf hW hpj
    have pj := lk_pj hpj
    have hm := lk_mem hpj
    intro x hx
    cases hl : lk s with
    | mk s1 o =>
      rw [hl] at w pj hm
      cases o with
      | some k =>
        simp only [swN, hl] at h
        cases h
        exact hm x hx
      | none =>
        simp only [swN, hl] at h
        have j1 : jrs s1 = jrs s := by simpa using pj.2.1
        exact hm x (swN_mem n s1 r w (by rw [pj.1, j1]; exact hpj) h x hx)
theorem sw_mem {s : PS} (h : WF s) (hpj : pnd s < jrs s) : ∀ x : Nat, x ∈ (sw s).1.1 ++ (sw s).1.2.1 → x ∈ s.1 ++ s.2.1 := swN_mem 200 s _ h hpj (sw_ok h hpj).1
theorem plc_wf {s : PS} (h : WF s) {k : Nat} (o : Nat) (hk : k < 40) (h1 : k ∉ s.1 ++ s.2.1) (h2 : jrs s < 12) : WF (plc s k o) := by
  obtain ⟨N, T, A, B, to, pi, fe, pl, go, hi, mi, re, lo⟩ := s
  obtain ⟨kN, kT, kA, kB, nd, len, lA, lB, p2, p12, g12, t1, p9⟩ := h
  have h2' : N.length + T.length < 12 := h2
  have hp : List.Perm (N ++ [k] ++ T) (k :: (N ++ T)) := by
    have h3 := (List.perm_append_singleton k N).append_right T
    exact h3
  have hq : List.Perm (N ++ (T ++ [k])) (k :: (N ++ T)) := by
    rw [← List.append_assoc]
    exact List.perm_append_singleton k (N ++ T)
  have nd2 : (k :: (N ++ T)).Nodup := List.nodup_cons.mpr ⟨h1, nd⟩
  unfold plc
  dsimp only
  split
  · exact ⟨kN.push hk, kT, kA, kB, hp.nodup_iff.mpr nd2, by simp only [List.length_append, List.length_cons, List.length_nil]; omega, lA, lB, p2, p12, g12, up_le t1 k 0 (by omega), up_le p9 k 0 (by omega)⟩
  · exact ⟨kN, kT.push hk, kA, kB, hq.nodup_iff.mpr nd2, by simp only [List.length_append, List.length_cons, List.length_nil]; omega, lA, lB, p2, p12, g12, up_le t1 k 0 (by omega), up_le p9 k 0 (by omega)⟩
/-- what stands before a new jar is put: room for it -/
theorem mid_ok {s : PS} (h : WF s) {k o : Nat} (ho : oc s k = o) (h0 : o ≠ 0) (h4 : o ≠ 4) : WF (if plS (rcl (missS s) k o) ≤ jrs (rcl (missS s) k o) then (sw (rcl (missS s) k o)).1 else rcl (missS s) k o) ∧ k ∉ (if plS (rcl (missS s) k o) ≤ jrs (rcl (missS s) k o) then (sw (rcl (missS s) k o)).1 else rcl (missS s) k o).1 ++ (if plS (rcl (missS s) k o) ≤ jrs (rcl (missS s) k o) then (sw (rcl (missS s) k o)).1 else rcl (missS s) k o).2.1 ∧ jrs (if plS (rcl (missS s) k o) ≤ jrs (rcl (missS s) k o) then (sw (rcl (missS s) k o)).1 else rcl (missS s) k o) < 12 := by
  have hm := oc_m (s := s) (k := k) (by rw [ho]; exact h0) (by rw [ho]; exact h4)
  have hk := rcl_keep (missS s) k o
  have hw := rcl_wf (missS_wf h) k o
  have e1 : (missS s).1 = s.1 := rfl
  have e2 : (missS s).2.1 = s.2.1 := rfl
  have e3 : jrs (missS s) = jrs s := rfl
  have e4 : pnd (missS s) = pnd s := rfl
  have e5 : plS (missS s) = plS s := rfl
  have hno : k ∉ (rcl (missS s) k o).1 ++ (rcl (missS s) k o).2.1 := by
    rw [hk.1, hk.2.1, e1, e2]
    exact fun z => (List.mem_append.mp z).elim hm.1.1 hm.1.2
  have hj : jrs (rcl (missS s) k o) ≤ 12 := by
    rw [hk.2.2.1, e3]
    obtain ⟨N, T, A, B, to, pi, fe, pl, go, hi, mi, re, lo⟩ := s
    exact h.2.2.2.2.2.1
  have hp12 : plS (rcl (missS s) k o) ≤ 12 := by
    rw [hk.2.2.2.2, e5]
    obtain ⟨N, T, A, B, to, pi, fe, pl, go, hi, mi, re, lo⟩ := s
    exact h.2.2.2.2.2.2.2.2.2.1
  by_cases hc : plS (rcl (missS s) k o) ≤ jrs (rcl (missS s) k o)
  · rw [if_pos hc]
    have hpj : pnd (rcl (missS s) k o) < jrs (rcl (missS s) k o) := by
      rw [hk.2.2.2.1, hk.2.2.1, e4, e3]
      exact hm.2 (by rw [hk.2.2.2.2, hk.2.2.1, e5, e3] at hc; exact hc)
    have hs := sw_ok hw hpj
    exact ⟨hs.2.1, fun z => hno (sw_mem hw hpj k z), by have := hs.2.2.2.1; omega⟩
  · rw [if_neg hc]
    exact ⟨hw, hno, by omega⟩
theorem mid_pj {s : PS} {k o : Nat} (ho : oc s k = o) (h0 : o ≠ 0) (h4 : o ≠ 4) (hc : plS (rcl (missS s) k o) ≤ jrs (rcl (missS s) k o)) : pnd (rcl (missS s) k o) < jrs (rcl (missS s) k o) := by
  have hm := oc_m (s := s) (k := k) (by rw [ho]; exact h0) (by rw [ho]; exact h4)
  have hk := rcl_keep (missS s) k o
  have e3 : jrs (missS s) = jrs s := rfl
  have e4 : pnd (missS s) = pnd s := rfl
  have e5 : plS (missS s) = plS s := rfl
  rw [hk.2.2.2.1, hk.2.2.1, e4, e3]
  exact hm.2 (by rw [hk.2.2.2.2, hk.2.2.1, e5, e3] at hc; exact hc)
theorem br_wf {s : PS} (h : WF s) {k : Nat} (hk : k < 40) : WF (br s k) := by
  by_cases h4 : oc s k = 4
  · rw [br_4 h4]; exact h
  · by_cases h0 : oc s k = 0
    · rw [br_0 h0]; exact hitS_wf h k
    · rw [br_m rfl h0 h4]
      have hm := mid_ok h rfl h0 h4
      exact plc_wf hm.1 _ hk hm.2.1 hm.2.2
theorem plc_pl (s : PS) (k o : Nat) : plS (plc s k o) = plS s := by
  obtain ⟨N, T, A, B, to, pi, fe, pl, go, hi, mi, re, lo⟩ := s
  unfold plc
  dsimp only
  split <;> rfl
theorem plc_jr (s : PS) (k o : Nat) : jrs (plc s k o) = jrs s + 1 := by
  obtain ⟨N, T, A, B, to, pi, fe, pl, go, hi, mi, re, lo⟩ := s
  unfold plc
  dsimp only
  split
  · show (N ++ [k]).length + T.length = _
    rw [List.length_append, List.length_singleton]
    show _ = N.length + T.length + 1
    omega
  · show N.length + (T ++ [k]).length = _
    rw [List.length_append, List.length_singleton]
    show _ = N.length + T.length + 1
    omega
/-- never more jars than places -/
theorem br_jp {s : PS} (h : WF s) {k : Nat} (hj : jrs s ≤ plS s) : jrs (br s k) ≤ plS (br s k) ∧ plS (br s k) = plS s := by
  by_cases h4 : oc s k = 4
  · rw [br_4 h4]; exact ⟨hj, rfl⟩
  · by_cases h0 : oc s k = 0
    · rw [br_0 h0]; exact ⟨hj, rfl⟩
    · rw [br_m rfl h0 h4]
      have hk := rcl_keep (missS s) k (oc s k)
      have hw := rcl_wf (missS_wf h) k (oc s k)
      have e3 : jrs (missS s) = jrs s := rfl
      have e5 : plS (missS s) = plS s := rfl
      rw [plc_pl, plc_jr]
      by_cases hc : plS (rcl (missS s) k (oc s k)) ≤ jrs (rcl (missS s) k (oc s k))
      · rw [if_pos hc]
        have hs := sw_ok hw (mid_pj rfl h0 h4 hc)
        have h5 := hs.2.2.2.1
        rw [hs.2.2.2.2]
        rw [hk.2.2.2.2, e5]
        rw [hk.2.2.1, e3] at h5
        exact ⟨by omega, rfl⟩
      · rw [if_neg hc]
        rw [hk.2.2.2.2, e5]
        rw [hk.2.2.2.2, e5] at hc
        exact ⟨by omega, rfl⟩
theorem srs_wf {fr st : Nat} : ∀ (n i : Nat) (s : PS), WF s → WF (srs fr st n i s)
  | 0, _, _, h => h
  | n + 1, i, s, h => srs_wf n (i + 1) _ (br_wf h (Nat.mod_lt _ (by decide)))
theorem srs_jp {fr st : Nat} : ∀ (n i : Nat) (s : PS), WF s → jrs s ≤ plS s → jrs (srs fr st n i s) ≤ plS (srs fr st n i s)
  | 0, _, _, _, h => h
  | n + 1, i, s, hW, h => srs_jp n (i + 1) _ (br_wf hW (Nat.mod_lt _ (by decide))) (br_jp hW h).1
theorem swM_stop {p : Nat} {s : PS} (h : ¬ p < jrs s) : ∀ n : Nat, swM p n s = s
  | 0 => rfl
  | n + 1 => if_neg h
theorem swM_go {p n : Nat} {s : PS} (h : p < jrs s) : swM p (n + 1) s = swM p n (sw s).1 := if_pos h
theorem swM_ok {p : Nat} : ∀ (n : Nat) (s : PS), WF s → pnd s ≤ p → jrs s ≤ p + n → WF (swM p n s) ∧ jrs (swM p n s) ≤ max p (min (jrs s) p) ∧ plS (swM p n s) = plS s ∧ pnd (swM p n s) = pnd s
  | 0, s, hW, hp, hj => ⟨hW, by show jrs s ≤ _; omega, rfl, rfl⟩
  | n + 1, s, hW, hp, hj => by
    by_cases h : p < jrs s
    · rw [swM_go h]
      have hs := sw_ok hW (by omega)
      have h5 := hs.2.2.2.1
      obtain ⟨a1, a2, a3, a4⟩ := swM_ok n (sw s).1 hs.2.1 (by rw [hs.2.2.1]; exact hp) (by omega)
      exact ⟨a1, by omega, a3.trans hs.2.2.2.2, a4.trans hs.2.2.1⟩
    · rw [swM_stop h]
      exact ⟨hW, by omega, rfl, rfl⟩
theorem setPl_wf {s : PS} (h : WF s) {p : Nat} (h2 : 2 ≤ p) (h12 : p ≤ 12) : WF (setPl p s) := by
  obtain ⟨N, T, A, B, to, pi, fe, pl, go, hi, mi, re, lo⟩ := s
  obtain ⟨kN, kT, kA, kB, nd, len, lA, lB, p2, p12, g12, t1, p9⟩ := h
  exact ⟨kN, kT, kA, kB, nd, len, lA, lB, h2, h12, g12, t1, p9⟩
theorem cutS_wf {s : PS} (h : WF s) {p : Nat} (h12 : p ≤ 12) : WF (cutS p s) := by
  obtain ⟨N, T, A, B, to, pi, fe, pl, go, hi, mi, re, lo⟩ := s
  obtain ⟨kN, kT, kA, kB, nd, len, lA, lB, p2, p12, g12, t1, p9⟩ := h
  exact ⟨kN, kT, kA.tr p, kB.tr p, nd, len, by rw [tr_len]; omega, by rw [tr_len]; omega, p2, p12, by omega, t1, p9⟩
theorem jrs_12 {s : PS} (h : WF s) : jrs s ≤ 12 := by
  obtain ⟨N, T, A, B, to, pi, fe, pl, go, hi, mi, re, lo⟩ := s
  exact h.2.2.2.2.2.1
theorem rsz_ok {s : PS} (h : WF s) {p : Nat} (h2 : 2 ≤ p) (h12 : p ≤ 12) (hp : pnd s ≤ p) : WF (rsz p s) ∧ jrs (rsz p s) ≤ plS (rsz p s) ∧ plS (rsz p s) = p := by
  have w := setPl_wf h h2 h12
  have e1 : pnd (setPl p s) = pnd s := rfl
  have e2 : jrs (setPl p s) = jrs s := rfl
  have e3 : plS (setPl p s) = p := rfl
  have j := jrs_12 h
  obtain ⟨a1, a2, a3, a4⟩ := swM_ok (p := p) 12 (setPl p s) w (by rw [e1]; exact hp) (by rw [e2]; omega)
  have e4 : jrs (rsz p s) = jrs (swM p 12 (setPl p s)) := rfl
  have e5 : plS (rsz p s) = plS (swM p 12 (setPl p s)) := rfl
  refine ⟨cutS_wf a1 h12, ?_, ?_⟩
  · rw [e4, e5, a3, e3]
    omega
  · rw [e5, a3, e3]
theorem nI_m9 {n : Nat} (h : n < 2147483648) : nI n ≠ -9 := fun e => by
  have := congrArg Int32.toInt e
  rw [nI_toInt h] at this
  have h2 : (-9 : Int32).toInt = -9 := by decide
  omega
end
section
/-! PinnedPantry$Store: fetching, places, what is told -/
set_option maxHeartbeats 4000000 in
set_option maxRecDepth 100000 in
/-- sweep, where none can leave -/
theorem c_X1_sweep_no (l : Launch) (D : va_G) (a : Nat → Nat) (N T A B : List Nat) (to pi : Nat → Nat) (fe : Nat → Int32) (pl go : Nat) (hi mi re lo : Int32) (g0 g1 g2 g3 g4 g5 g6 : Nat → Int32) (hS : SR (N, T, A, B, to, pi, fe, pl, go, hi, mi, re, lo) (g0, g1, g2, g3, g4, g5, g6)) (hW : WF (N, T, A, B, to, pi, fe, pl, go, hi, mi, re, lo)) (hpj : ¬ pc pi N + pc pi T < N.length + T.length) : MU l yX1_sweep cX1_sweep 5 (some .int) 3 67 D [.ref (a 0)] [((a 0), .inr (1, [.ref (a 1), .ref (a 3), .ref (a 5), .ref (a 7), .ref (a 9), .ref (a 11), .ref (a 13), .int (nI pl), .int (nI go), .int hi, .int mi, .int re, .int lo])), ((a 1), .inr (0, [.ref (a 2), .int (nI N.length)])), ((a 2), .inl (D.1 5, 40, .inl g0)), ((a 3), .inr (0, [.ref (a 4), .int (nI T.length)])), ((a 4), .inl (D.1 5, 40, .inl g1)), ((a 5), .inr (0, [.ref (a 6), .int (nI A.length)])), ((a 6), .inl (D.1 5, 40, .inl g2)), ((a 7), .inr (0, [.ref (a 8), .int (nI B.length)])), ((a 8), .inl (D.1 5, 40, .inl g3)), ((a 9), .inr (2, [.ref (a 10)])), ((a 10), .inl (D.1 5, 40, .inl g4)), ((a 11), .inr (2, [.ref (a 12)])), ((a 12), .inl (D.1 5, 40, .inl g5)), ((a 13), .inr (2, [.ref (a 14)])), ((a 14), .inl (D.1 5, 40, .inl g6))] (fun v (u : PS × PG) => v = some (.int (-1)) ∧ u.1 = (N, T, A, B, to, pi, fe, pl, go, hi, mi, re, lo) ∧ SR u.1 u.2) (fun u => wSt D a u.1 u.2) 0 0 := by
  refine MU.enter (by decide) [(0, .ref (a 0))] rfl (Nat.le_of_ble_eq_true rfl) (fun G hC hE => ?_)
  have hC : CX G D cX1_sweep RX1 5 := hC
  have hS0 := hS
  have hW0 := hW
  obtain ⟨r0, r1, r2, r3, r4, r5, r6⟩ := hS
  obtain ⟨kN, kT, kA, kB, nd, len, lA, lB, p2, p12, g12, t1, p9⟩ := hW
  have q0 := pc_le pi N
  have q1 := pc_le pi T
  refine k_aload_n hC 0 dX1_sweep_0 rfl ?_
  refine k_callVr hC 1 0 [0, 1, 2, 3, 4, 5, 6, 7, 8, 9, 10, 11, 12, 13, 14] (c_X1_pinnedJars l D a N T A B to pi fe pl go hi mi re lo g0 g1 g2 g3 g4 g5 g6 hS0 hW0) cw_RX1_91 dX1_sweep_1 ⟨Nat.le_of_ble_eq_true rfl, Nat.le_of_ble_eq_true rfl, Nat.le_of_ble_eq_true rfl, Nat.le_of_ble_eq_true rfl⟩ rfl (Nat.le_of_ble_eq_true rfl) rfl rfl rfl (by decide) rfl (fun _ => Nat.le_of_ble_eq_true rfl) (fun _ => rfl) _ rfl (fun v u hp => ?_)
  obtain rfl := hp
  refine KJ.eqs (st' := .int (nI (pc pi N + pc pi T)) :: []) rfl ?_
  refine k_aload_n hC 4 dX1_sweep_4 rfl ?_
  refine k_callVr hC 5 0 [0, 1, 2, 3, 4, 5, 6, 7, 8, 9, 10, 11, 12, 13, 14] (c_X1_jars l D a N T A B to pi fe pl go hi mi re lo g0 g1 g2 g3 g4 g5 g6 hS0 hW0) cw_RX1_87 dX1_sweep_5 ⟨Nat.le_of_ble_eq_true rfl, Nat.le_of_ble_eq_true rfl, Nat.le_of_ble_eq_true rfl, Nat.le_of_ble_eq_true rfl⟩ rfl (Nat.le_of_ble_eq_true rfl) rfl rfl rfl (by decide) rfl (fun _ => Nat.le_of_ble_eq_true rfl) (fun _ => rfl) _ rfl (fun v u hp => ?_)
  obtain rfl := hp
  refine KJ.eqs (st' := .int (nI (N.length + T.length)) :: .int (nI (pc pi N + pc pi T)) :: []) rfl ?_
  refine n_icmp_lt hC 8 13 dX1_sweep_8 (by decide) (by omega) (by omega) (fun h8 => ?_) (fun h8 => ?_)
  · skip
    exact absurd h8 (by omega)
  · skip
    refine k_iconst hC 11 dX1_sweep_11 (-1) (by decide) ?_
    exact k_iret hC hE 12 ((N, T, A, B, to, pi, fe, pl, go, hi, mi, re, lo), (g0, g1, g2, g3, g4, g5, g6)) dX1_sweep_12 rfl (⟨rfl, rfl, hS0⟩) rfl ⟨Nat.zero_le _, Nat.zero_le _⟩
set_option maxHeartbeats 4000000 in
set_option maxRecDepth 100000 in
/-- bring -/
theorem c_X1_bring (l : Launch) (D : va_G) (a : Nat → Nat) (N T A B : List Nat) (to pi : Nat → Nat) (fe : Nat → Int32) (pl go : Nat) (hi mi re lo : Int32) (g0 g1 g2 g3 g4 g5 g6 : Nat → Int32) (k : Nat) (hS : SR (N, T, A, B, to, pi, fe, pl, go, hi, mi, re, lo) (g0, g1, g2, g3, g4, g5, g6)) (hW : WF (N, T, A, B, to, pi, fe, pl, go, hi, mi, re, lo)) (hk : k < 40) : MU l yX1_bring cX1_bring 3 (some .int) 4 91 D [.ref (a 0), .int (nI k)] [((a 0), .inr (1, [.ref (a 1), .ref (a 3), .ref (a 5), .ref (a 7), .ref (a 9), .ref (a 11), .ref (a 13), .int (nI pl), .int (nI go), .int hi, .int mi, .int re, .int lo])), ((a 1), .inr (0, [.ref (a 2), .int (nI N.length)])), ((a 2), .inl (D.1 5, 40, .inl g0)), ((a 3), .inr (0, [.ref (a 4), .int (nI T.length)])), ((a 4), .inl (D.1 5, 40, .inl g1)), ((a 5), .inr (0, [.ref (a 6), .int (nI A.length)])), ((a 6), .inl (D.1 5, 40, .inl g2)), ((a 7), .inr (0, [.ref (a 8), .int (nI B.length)])), ((a 8), .inl (D.1 5, 40, .inl g3)), ((a 9), .inr (2, [.ref (a 10)])), ((a 10), .inl (D.1 5, 40, .inl g4)), ((a 11), .inr (2, [.ref (a 12)])), ((a 12), .inl (D.1 5, 40, .inl g5)), ((a 13), .inr (2, [.ref (a 14)])), ((a 14), .inl (D.1 5, 40, .inl g6))] (fun v (u : PS × PG) => v = some (.int (ocI (oc (N, T, A, B, to, pi, fe, pl, go, hi, mi, re, lo) k))) ∧ u.1 = br (N, T, A, B, to, pi, fe, pl, go, hi, mi, re, lo) k ∧ SR u.1 u.2) (fun u => wSt D a u.1 u.2) 0 0 := by
  refine MU.enter (by decide) [(0, .ref (a 0)), (1, .int (nI k))] rfl (Nat.le_of_ble_eq_true rfl) (fun G hC hE => ?_)
  have hC : CX G D cX1_bring RX1 3 := hC
  have hS0 := hS
  have hW0 := hW
  obtain ⟨r0, r1, r2, r3, r4, r5, r6⟩ := hS
  obtain ⟨kN, kT, kA, kB, nd, len, lA, lB, p2, p12, g12, t1, p9⟩ := hW
  refine k_aload_n hC 0 dX1_bring_0 rfl ?_
  refine k_iload_n hC 1 dX1_bring_1 rfl ?_
  refine k_callVr hC 2 0 [0, 1, 2, 3, 4, 5, 6, 7, 8, 9, 10, 11, 12, 13, 14] (c_X1_forecast l D a N T A B to pi fe pl go hi mi re lo g0 g1 g2 g3 g4 g5 g6 k hS0 hW0 hk) cw_RX1_94 dX1_bring_2 ⟨Nat.le_of_ble_eq_true rfl, Nat.le_of_ble_eq_true rfl, Nat.le_of_ble_eq_true rfl, Nat.le_of_ble_eq_true rfl⟩ rfl (Nat.le_of_ble_eq_true rfl) rfl rfl rfl (by decide) rfl (fun _ => Nat.le_of_ble_eq_true rfl) (fun _ => rfl) _ rfl (fun v u hp => ?_)
  obtain rfl := hp
  refine KJ.eqs (st' := .int (ocI (oc (N, T, A, B, to, pi, fe, pl, go, hi, mi, re, lo) k)) :: []) rfl ?_
  have hol := oc_lt (N, T, A, B, to, pi, fe, pl, go, hi, mi, re, lo) k
  generalize ho : oc (N, T, A, B, to, pi, fe, pl, go, hi, mi, re, lo) k = o at hol
  by_cases h4 : o = 4
  · skip
    subst h4
    rw [ocI_4]
    refine k_istore_n hC 5 2 [(2, .int (-9)), (0, .ref (a 0)), (1, .int (nI k))] dX1_bring_5 rfl (by decide) rfl ?_
    refine k_iload_n hC 6 dX1_bring_6 rfl ?_
    refine k_bipush hC 7 dX1_bring_7 (-9) (by decide) ?_
    refine k_icmp_ne hC 9 14 dX1_bring_9 (by decide) (fun h9 => ?_) (fun h9 => ?_)
    · skip
      exact absurd rfl h9
    · skip
      refine k_iload_n hC 12 dX1_bring_12 rfl ?_
      exact k_iret hC hE 13 ((N, T, A, B, to, pi, fe, pl, go, hi, mi, re, lo), (g0, g1, g2, g3, g4, g5, g6)) dX1_bring_13 rfl (⟨by rw [ho, ocI_4], (br_4 ho).symm, hS0⟩) rfl ⟨Nat.zero_le _, Nat.zero_le _⟩
  · skip
    rw [ocI_n h4]
    refine k_istore_n hC 5 2 [(2, .int (nI o)), (0, .ref (a 0)), (1, .int (nI k))] dX1_bring_5 rfl (by decide) rfl ?_
    refine k_iload_n hC 6 dX1_bring_6 rfl ?_
    refine k_bipush hC 7 dX1_bring_7 (-9) (by decide) ?_
    refine k_icmp_ne hC 9 14 dX1_bring_9 (by decide) (fun h9 => ?_) (fun h9 => ?_)
    · skip
      refine k_iload_n hC 14 dX1_bring_14 rfl ?_
      refine n_if_ne hC 15 57 dX1_bring_15 (by decide) (by omega) (fun h15 => ?_) (fun h15 => ?_)
      · skip
        refine k_aload_n hC 57 dX1_bring_57 rfl ?_
        refine k_dup hC 58 dX1_bring_58 rfl ?_
        refine k_getf hC 59 0 10 dX1_bring_59 rfl rfl inlX1 (by decide) wq_4_6 rfl ?_
        refine k_iconst hC 62 dX1_bring_62 (nI 1) (by decide) ?_
        refine k_iadd hC 63 dX1_bring_63 (KJ.topi (y := (mi + 1)) rfl ?_)
        refine k_putf hC 64 (ty0 := tyX1) 0 10 [((a 0), .inr (1, [.ref (a 1), .ref (a 3), .ref (a 5), .ref (a 7), .ref (a 9), .ref (a 11), .ref (a 13), .int (nI pl), .int (nI go), .int hi, .int (mi + 1), .int re, .int lo])), ((a 1), .inr (0, [.ref (a 2), .int (nI N.length)])), ((a 2), .inl (D.1 5, 40, .inl g0)), ((a 3), .inr (0, [.ref (a 4), .int (nI T.length)])), ((a 4), .inl (D.1 5, 40, .inl g1)), ((a 5), .inr (0, [.ref (a 6), .int (nI A.length)])), ((a 6), .inl (D.1 5, 40, .inl g2)), ((a 7), .inr (0, [.ref (a 8), .int (nI B.length)])), ((a 8), .inl (D.1 5, 40, .inl g3)), ((a 9), .inr (2, [.ref (a 10)])), ((a 10), .inl (D.1 5, 40, .inl g4)), ((a 11), .inr (2, [.ref (a 12)])), ((a 12), .inl (D.1 5, 40, .inl g5)), ((a 13), .inr (2, [.ref (a 14)])), ((a 14), .inl (D.1 5, 40, .inl g6))] dX1_bring_64 rfl rfl inlX1 tyX1_ok nmX1 (by decide) wq_4_6 rfl rfl rfl (Nat.le_of_ble_eq_true rfl) rfl ?_
        refine k_aload_n hC 67 dX1_bring_67 rfl ?_
        refine k_iload_n hC 68 dX1_bring_68 rfl ?_
        refine k_iload_n hC 69 dX1_bring_69 rfl ?_
        refine k_callV hC 70 0 [0, 1, 2, 3, 4, 5, 6, 7, 8, 9, 10, 11, 12, 13, 14] (fun u => [((a 0), .inr (1, [.ref (a 1), .ref (a 3), .ref (a 5), .ref (a 7), .ref (a 9), .ref (a 11), .ref (a 13), .int (nI u.1.2.2.2.2.2.2.2.1), .int (nI u.1.2.2.2.2.2.2.2.2.1), .int u.1.2.2.2.2.2.2.2.2.2.1, .int u.1.2.2.2.2.2.2.2.2.2.2.1, .int u.1.2.2.2.2.2.2.2.2.2.2.2.1, .int u.1.2.2.2.2.2.2.2.2.2.2.2.2])), ((a 1), .inr (0, [.ref (a 2), .int (nI u.1.1.length)])), ((a 2), .inl (D.1 5, 40, .inl u.2.1)), ((a 3), .inr (0, [.ref (a 4), .int (nI u.1.2.1.length)])), ((a 4), .inl (D.1 5, 40, .inl u.2.2.1)), ((a 5), .inr (0, [.ref (a 6), .int (nI u.1.2.2.1.length)])), ((a 6), .inl (D.1 5, 40, .inl u.2.2.2.1)), ((a 7), .inr (0, [.ref (a 8), .int (nI u.1.2.2.2.1.length)])), ((a 8), .inl (D.1 5, 40, .inl u.2.2.2.2.1)), ((a 9), .inr (2, [.ref (a 10)])), ((a 10), .inl (D.1 5, 40, .inl u.2.2.2.2.2.1)), ((a 11), .inr (2, [.ref (a 12)])), ((a 12), .inl (D.1 5, 40, .inl u.2.2.2.2.2.2.1)), ((a 13), .inr (2, [.ref (a 14)])), ((a 14), .inl (D.1 5, 40, .inl u.2.2.2.2.2.2.2))]) (c_X1_recall l D a N T A B to pi fe pl go hi (mi + 1) re lo g0 g1 g2 g3 g4 g5 g6 k o hS0 hW0 hk (by omega) (fun z => oc_2 (ho.trans z)) (fun z => oc_3 (ho.trans z))) cw_RX1_101 dX1_bring_70 ⟨Nat.le_of_ble_eq_true rfl, Nat.le_of_ble_eq_true rfl, Nat.le_of_ble_eq_true rfl, Nat.le_of_ble_eq_true rfl⟩ rfl (Nat.le_of_ble_eq_true rfl) rfl rfl rfl (by decide) rfl (fun _ => Nat.le_of_ble_eq_true rfl) (fun _ => rfl) _ rfl (fun v u hp => ?_)
        obtain ⟨⟨N1, T1, A1, B1, to1, pi1, fe1, pl1, go1, hi1, mi1, re1, lo1⟩, y01, y11, y21, y31, y41, y51, y61⟩ := u
        obtain ⟨rfl, e1, hS1⟩ := hp
        have e1 : (N1, T1, A1, B1, to1, pi1, fe1, pl1, go1, hi1, mi1, re1, lo1) = rcl (missS (N, T, A, B, to, pi, fe, pl, go, hi, mi, re, lo)) k o := e1
        have hS1 : SR (N1, T1, A1, B1, to1, pi1, fe1, pl1, go1, hi1, mi1, re1, lo1) (y01, y11, y21, y31, y41, y51, y61) := hS1
        have w1 : WF (N1, T1, A1, B1, to1, pi1, fe1, pl1, go1, hi1, mi1, re1, lo1) := by rw [e1]; exact rcl_wf (missS_wf hW0) k o
        have l1 : N1.length + T1.length ≤ 12 := jrs_12 w1
        have p1 : pl1 ≤ 12 := w1.2.2.2.2.2.2.2.2.2.1
        have mo := mid_ok hW0 ho h15 h4
        have mp := mid_pj ho h15 h4
        rw [← e1] at mo mp
        refine KJ.eqs (st' := []) rfl ?_
        refine KJ.eqw (ws' := [((a 0), .inr (1, [.ref (a 1), .ref (a 3), .ref (a 5), .ref (a 7), .ref (a 9), .ref (a 11), .ref (a 13), .int (nI pl1), .int (nI go1), .int hi1, .int mi1, .int re1, .int lo1])), ((a 1), .inr (0, [.ref (a 2), .int (nI N1.length)])), ((a 2), .inl (D.1 5, 40, .inl y01)), ((a 3), .inr (0, [.ref (a 4), .int (nI T1.length)])), ((a 4), .inl (D.1 5, 40, .inl y11)), ((a 5), .inr (0, [.ref (a 6), .int (nI A1.length)])), ((a 6), .inl (D.1 5, 40, .inl y21)), ((a 7), .inr (0, [.ref (a 8), .int (nI B1.length)])), ((a 8), .inl (D.1 5, 40, .inl y31)), ((a 9), .inr (2, [.ref (a 10)])), ((a 10), .inl (D.1 5, 40, .inl y41)), ((a 11), .inr (2, [.ref (a 12)])), ((a 12), .inl (D.1 5, 40, .inl y51)), ((a 13), .inr (2, [.ref (a 14)])), ((a 14), .inl (D.1 5, 40, .inl y61))]) rfl ?_
        refine k_aload_n hC 73 dX1_bring_73 rfl ?_
        refine k_callVr hC 74 0 [0, 1, 2, 3, 4, 5, 6, 7, 8, 9, 10, 11, 12, 13, 14] (c_X1_jars l D a N1 T1 A1 B1 to1 pi1 fe1 pl1 go1 hi1 mi1 re1 lo1 y01 y11 y21 y31 y41 y51 y61 hS1 w1) cw_RX1_87 dX1_bring_74 ⟨Nat.le_of_ble_eq_true rfl, Nat.le_of_ble_eq_true rfl, Nat.le_of_ble_eq_true rfl, Nat.le_of_ble_eq_true rfl⟩ rfl (Nat.le_of_ble_eq_true rfl) rfl rfl rfl (by decide) rfl (fun _ => Nat.le_of_ble_eq_true rfl) (fun _ => rfl) _ rfl (fun v u hp => ?_)
        obtain rfl := hp
        refine KJ.eqs (st' := .int (nI (N1.length + T1.length)) :: []) rfl ?_
        refine k_aload_n hC 77 dX1_bring_77 rfl ?_
        refine k_getf hC 78 0 7 dX1_bring_78 rfl rfl inlX1 (by decide) wq_2_11 rfl ?_
        refine n_icmp_lt hC 81 89 dX1_bring_81 (by decide) (by omega) (by omega) (fun hc => ?_) (fun hc => ?_)
        · skip
          have mo2 : ((N1, T1, A1, B1, to1, pi1, fe1, pl1, go1, hi1, mi1, re1, lo1) : PS) = (if plS (N1, T1, A1, B1, to1, pi1, fe1, pl1, go1, hi1, mi1, re1, lo1) ≤ jrs (N1, T1, A1, B1, to1, pi1, fe1, pl1, go1, hi1, mi1, re1, lo1) then (sw (N1, T1, A1, B1, to1, pi1, fe1, pl1, go1, hi1, mi1, re1, lo1)).1 else (N1, T1, A1, B1, to1, pi1, fe1, pl1, go1, hi1, mi1, re1, lo1)) := (if_neg (Nat.not_le.mpr hc)).symm
          rw [← mo2] at mo
          refine k_aload_n hC 89 dX1_bring_89 rfl ?_
          refine k_iload_n hC 90 dX1_bring_90 rfl ?_
          refine k_iload_n hC 91 dX1_bring_91 rfl ?_
          refine k_iconst hC 92 dX1_bring_92 (nI 1) (by decide) ?_
          refine n_icmp_ne hC 93 103 dX1_bring_93 (by decide) (by omega) (by omega) (fun h93 => ?_) (fun h93 => ?_)
          · skip
            refine k_aload_n hC 103 dX1_bring_103 rfl ?_
            refine k_getf hC 104 0 1 dX1_bring_104 rfl rfl inlX1 (by decide) wq_2_2 rfl ?_
            refine k_callV hC 107 0 [0, 1, 2, 3, 4, 5, 6, 7, 8, 9, 10, 11, 12, 13, 14] (fun u => [((a 0), .inr (1, [.ref (a 1), .ref (a 3), .ref (a 5), .ref (a 7), .ref (a 9), .ref (a 11), .ref (a 13), .int (nI u.1.2.2.2.2.2.2.2.1), .int (nI u.1.2.2.2.2.2.2.2.2.1), .int u.1.2.2.2.2.2.2.2.2.2.1, .int u.1.2.2.2.2.2.2.2.2.2.2.1, .int u.1.2.2.2.2.2.2.2.2.2.2.2.1, .int u.1.2.2.2.2.2.2.2.2.2.2.2.2])), ((a 1), .inr (0, [.ref (a 2), .int (nI u.1.1.length)])), ((a 2), .inl (D.1 5, 40, .inl u.2.1)), ((a 3), .inr (0, [.ref (a 4), .int (nI u.1.2.1.length)])), ((a 4), .inl (D.1 5, 40, .inl u.2.2.1)), ((a 5), .inr (0, [.ref (a 6), .int (nI u.1.2.2.1.length)])), ((a 6), .inl (D.1 5, 40, .inl u.2.2.2.1)), ((a 7), .inr (0, [.ref (a 8), .int (nI u.1.2.2.2.1.length)])), ((a 8), .inl (D.1 5, 40, .inl u.2.2.2.2.1)), ((a 9), .inr (2, [.ref (a 10)])), ((a 10), .inl (D.1 5, 40, .inl u.2.2.2.2.2.1)), ((a 11), .inr (2, [.ref (a 12)])), ((a 12), .inl (D.1 5, 40, .inl u.2.2.2.2.2.2.1)), ((a 13), .inr (2, [.ref (a 14)])), ((a 14), .inl (D.1 5, 40, .inl u.2.2.2.2.2.2.2))]) (c_X1_placeNewJar1 l D a N1 T1 A1 B1 to1 pi1 fe1 pl1 go1 hi1 mi1 re1 lo1 y01 y11 y21 y31 y41 y51 y61 k o hS1 w1 hk h93) cw_RX1_107 dX1_bring_107 ⟨Nat.le_of_ble_eq_true rfl, Nat.le_of_ble_eq_true rfl, Nat.le_of_ble_eq_true rfl, Nat.le_of_ble_eq_true rfl⟩ rfl (Nat.le_of_ble_eq_true rfl) rfl rfl rfl (by decide) rfl (fun _ => Nat.le_of_ble_eq_true rfl) (fun _ => rfl) _ rfl (fun v u hp => ?_)
            obtain ⟨⟨N3, T3, A3, B3, to3, pi3, fe3, pl3, go3, hi3, mi3, re3, lo3⟩, y03, y13, y23, y33, y43, y53, y63⟩ := u
            obtain ⟨rfl, e3, hS3⟩ := hp
            have e3 : (N3, T3, A3, B3, to3, pi3, fe3, pl3, go3, hi3, mi3, re3, lo3) = plc (N1, T1, A1, B1, to1, pi1, fe1, pl1, go1, hi1, mi1, re1, lo1) k o := e3
            have hS3 : SR (N3, T3, A3, B3, to3, pi3, fe3, pl3, go3, hi3, mi3, re3, lo3) (y03, y13, y23, y33, y43, y53, y63) := hS3
            refine KJ.eqs (st' := []) rfl ?_
            refine KJ.eqw (ws' := [((a 0), .inr (1, [.ref (a 1), .ref (a 3), .ref (a 5), .ref (a 7), .ref (a 9), .ref (a 11), .ref (a 13), .int (nI pl3), .int (nI go3), .int hi3, .int mi3, .int re3, .int lo3])), ((a 1), .inr (0, [.ref (a 2), .int (nI N3.length)])), ((a 2), .inl (D.1 5, 40, .inl y03)), ((a 3), .inr (0, [.ref (a 4), .int (nI T3.length)])), ((a 4), .inl (D.1 5, 40, .inl y13)), ((a 5), .inr (0, [.ref (a 6), .int (nI A3.length)])), ((a 6), .inl (D.1 5, 40, .inl y23)), ((a 7), .inr (0, [.ref (a 8), .int (nI B3.length)])), ((a 8), .inl (D.1 5, 40, .inl y33)), ((a 9), .inr (2, [.ref (a 10)])), ((a 10), .inl (D.1 5, 40, .inl y43)), ((a 11), .inr (2, [.ref (a 12)])), ((a 12), .inl (D.1 5, 40, .inl y53)), ((a 13), .inr (2, [.ref (a 14)])), ((a 14), .inl (D.1 5, 40, .inl y63))]) rfl ?_
            refine k_iload_n hC 110 dX1_bring_110 rfl ?_
            exact k_iret hC hE 111 ((N3, T3, A3, B3, to3, pi3, fe3, pl3, go3, hi3, mi3, re3, lo3), (y03, y13, y23, y33, y43, y53, y63)) dX1_bring_111 rfl (⟨by rw [ho, ocI_n h4], by rw [br_m ho h15 h4, e3, mo2, e1], hS3⟩) rfl ⟨Nat.zero_le _, Nat.zero_le _⟩
          · skip
            refine k_aload_n hC 96 dX1_bring_96 rfl ?_
            refine k_getf hC 97 0 0 dX1_bring_97 rfl rfl inlX1 (by decide) wq_2_1 rfl ?_
            refine k_goto hC 100 107 dX1_bring_100 (by decide) ?_
            refine k_callV hC 107 0 [0, 1, 2, 3, 4, 5, 6, 7, 8, 9, 10, 11, 12, 13, 14] (fun u => [((a 0), .inr (1, [.ref (a 1), .ref (a 3), .ref (a 5), .ref (a 7), .ref (a 9), .ref (a 11), .ref (a 13), .int (nI u.1.2.2.2.2.2.2.2.1), .int (nI u.1.2.2.2.2.2.2.2.2.1), .int u.1.2.2.2.2.2.2.2.2.2.1, .int u.1.2.2.2.2.2.2.2.2.2.2.1, .int u.1.2.2.2.2.2.2.2.2.2.2.2.1, .int u.1.2.2.2.2.2.2.2.2.2.2.2.2])), ((a 1), .inr (0, [.ref (a 2), .int (nI u.1.1.length)])), ((a 2), .inl (D.1 5, 40, .inl u.2.1)), ((a 3), .inr (0, [.ref (a 4), .int (nI u.1.2.1.length)])), ((a 4), .inl (D.1 5, 40, .inl u.2.2.1)), ((a 5), .inr (0, [.ref (a 6), .int (nI u.1.2.2.1.length)])), ((a 6), .inl (D.1 5, 40, .inl u.2.2.2.1)), ((a 7), .inr (0, [.ref (a 8), .int (nI u.1.2.2.2.1.length)])), ((a 8), .inl (D.1 5, 40, .inl u.2.2.2.2.1)), ((a 9), .inr (2, [.ref (a 10)])), ((a 10), .inl (D.1 5, 40, .inl u.2.2.2.2.2.1)), ((a 11), .inr (2, [.ref (a 12)])), ((a 12), .inl (D.1 5, 40, .inl u.2.2.2.2.2.2.1)), ((a 13), .inr (2, [.ref (a 14)])), ((a 14), .inl (D.1 5, 40, .inl u.2.2.2.2.2.2.2))]) (c_X1_placeNewJar0 l D a N1 T1 A1 B1 to1 pi1 fe1 pl1 go1 hi1 mi1 re1 lo1 y01 y11 y21 y31 y41 y51 y61 k o hS1 w1 hk h93) cw_RX1_107 dX1_bring_107 ⟨Nat.le_of_ble_eq_true rfl, Nat.le_of_ble_eq_true rfl, Nat.le_of_ble_eq_true rfl, Nat.le_of_ble_eq_true rfl⟩ rfl (Nat.le_of_ble_eq_true rfl) rfl rfl rfl (by decide) rfl (fun _ => Nat.le_of_ble_eq_true rfl) (fun _ => rfl) _ rfl (fun v u hp => ?_)
            obtain ⟨⟨N3, T3, A3, B3, to3, pi3, fe3, pl3, go3, hi3, mi3, re3, lo3⟩, y03, y13, y23, y33, y43, y53, y63⟩ := u
            obtain ⟨rfl, e3, hS3⟩ := hp
            have e3 : (N3, T3, A3, B3, to3, pi3, fe3, pl3, go3, hi3, mi3, re3, lo3) = plc (N1, T1, A1, B1, to1, pi1, fe1, pl1, go1, hi1, mi1, re1, lo1) k o := e3
            have hS3 : SR (N3, T3, A3, B3, to3, pi3, fe3, pl3, go3, hi3, mi3, re3, lo3) (y03, y13, y23, y33, y43, y53, y63) := hS3
            refine KJ.eqs (st' := []) rfl ?_
            refine KJ.eqw (ws' := [((a 0), .inr (1, [.ref (a 1), .ref (a 3), .ref (a 5), .ref (a 7), .ref (a 9), .ref (a 11), .ref (a 13), .int (nI pl3), .int (nI go3), .int hi3, .int mi3, .int re3, .int lo3])), ((a 1), .inr (0, [.ref (a 2), .int (nI N3.length)])), ((a 2), .inl (D.1 5, 40, .inl y03)), ((a 3), .inr (0, [.ref (a 4), .int (nI T3.length)])), ((a 4), .inl (D.1 5, 40, .inl y13)), ((a 5), .inr (0, [.ref (a 6), .int (nI A3.length)])), ((a 6), .inl (D.1 5, 40, .inl y23)), ((a 7), .inr (0, [.ref (a 8), .int (nI B3.length)])), ((a 8), .inl (D.1 5, 40, .inl y33)), ((a 9), .inr (2, [.ref (a 10)])), ((a 10), .inl (D.1 5, 40, .inl y43)), ((a 11), .inr (2, [.ref (a 12)])), ((a 12), .inl (D.1 5, 40, .inl y53)), ((a 13), .inr (2, [.ref (a 14)])), ((a 14), .inl (D.1 5, 40, .inl y63))]) rfl ?_
            refine k_iload_n hC 110 dX1_bring_110 rfl ?_
            exact k_iret hC hE 111 ((N3, T3, A3, B3, to3, pi3, fe3, pl3, go3, hi3, mi3, re3, lo3), (y03, y13, y23, y33, y43, y53, y63)) dX1_bring_111 rfl (⟨by rw [ho, ocI_n h4], by rw [br_m ho h15 h4, e3, mo2, e1], hS3⟩) rfl ⟨Nat.zero_le _, Nat.zero_le _⟩
        · skip
          refine k_aload_n hC 84 dX1_bring_84 rfl ?_
          have so := sw_ok w1 (mp hc)
          refine k_callV hC 85 0 [0, 1, 2, 3, 4, 5, 6, 7, 8, 9, 10, 11, 12, 13, 14] (fun u => [((a 0), .inr (1, [.ref (a 1), .ref (a 3), .ref (a 5), .ref (a 7), .ref (a 9), .ref (a 11), .ref (a 13), .int (nI u.1.2.2.2.2.2.2.2.1), .int (nI u.1.2.2.2.2.2.2.2.2.1), .int u.1.2.2.2.2.2.2.2.2.2.1, .int u.1.2.2.2.2.2.2.2.2.2.2.1, .int u.1.2.2.2.2.2.2.2.2.2.2.2.1, .int u.1.2.2.2.2.2.2.2.2.2.2.2.2])), ((a 1), .inr (0, [.ref (a 2), .int (nI u.1.1.length)])), ((a 2), .inl (D.1 5, 40, .inl u.2.1)), ((a 3), .inr (0, [.ref (a 4), .int (nI u.1.2.1.length)])), ((a 4), .inl (D.1 5, 40, .inl u.2.2.1)), ((a 5), .inr (0, [.ref (a 6), .int (nI u.1.2.2.1.length)])), ((a 6), .inl (D.1 5, 40, .inl u.2.2.2.1)), ((a 7), .inr (0, [.ref (a 8), .int (nI u.1.2.2.2.1.length)])), ((a 8), .inl (D.1 5, 40, .inl u.2.2.2.2.1)), ((a 9), .inr (2, [.ref (a 10)])), ((a 10), .inl (D.1 5, 40, .inl u.2.2.2.2.2.1)), ((a 11), .inr (2, [.ref (a 12)])), ((a 12), .inl (D.1 5, 40, .inl u.2.2.2.2.2.2.1)), ((a 13), .inr (2, [.ref (a 14)])), ((a 14), .inl (D.1 5, 40, .inl u.2.2.2.2.2.2.2))]) (c_X1_sweep l D a N1 T1 A1 B1 to1 pi1 fe1 pl1 go1 hi1 mi1 re1 lo1 y01 y11 y21 y31 y41 y51 y61 200 (sw (N1, T1, A1, B1, to1, pi1, fe1, pl1, go1, hi1, mi1, re1, lo1)).1 (sw (N1, T1, A1, B1, to1, pi1, fe1, pl1, go1, hi1, mi1, re1, lo1)).2 hS1 w1 (by decide) so.1 (mp hc)) cw_RX1_104 dX1_bring_85 ⟨Nat.le_of_ble_eq_true rfl, Nat.le_of_ble_eq_true rfl, Nat.le_of_ble_eq_true rfl, Nat.le_of_ble_eq_true rfl⟩ rfl (Nat.le_of_ble_eq_true rfl) rfl rfl rfl (by decide) rfl (fun _ => Nat.le_of_ble_eq_true rfl) (fun _ => rfl) _ rfl (fun v u hp => ?_)
          obtain ⟨⟨N2, T2, A2, B2, to2, pi2, fe2, pl2, go2, hi2, mi2, re2, lo2⟩, y02, y12, y22, y32, y42, y52, y62⟩ := u
          obtain ⟨rfl, e2, hS2⟩ := hp
          have e2 : (N2, T2, A2, B2, to2, pi2, fe2, pl2, go2, hi2, mi2, re2, lo2) = (sw (N1, T1, A1, B1, to1, pi1, fe1, pl1, go1, hi1, mi1, re1, lo1)).1 := e2
          have hS2 : SR (N2, T2, A2, B2, to2, pi2, fe2, pl2, go2, hi2, mi2, re2, lo2) (y02, y12, y22, y32, y42, y52, y62) := hS2
          have w2 : WF (N2, T2, A2, B2, to2, pi2, fe2, pl2, go2, hi2, mi2, re2, lo2) := by rw [e2]; exact so.2.1
          have mo2 : ((N2, T2, A2, B2, to2, pi2, fe2, pl2, go2, hi2, mi2, re2, lo2) : PS) = (if plS (N1, T1, A1, B1, to1, pi1, fe1, pl1, go1, hi1, mi1, re1, lo1) ≤ jrs (N1, T1, A1, B1, to1, pi1, fe1, pl1, go1, hi1, mi1, re1, lo1) then (sw (N1, T1, A1, B1, to1, pi1, fe1, pl1, go1, hi1, mi1, re1, lo1)).1 else (N1, T1, A1, B1, to1, pi1, fe1, pl1, go1, hi1, mi1, re1, lo1)) := e2.trans (if_pos hc).symm
          rw [← mo2] at mo
          refine KJ.eqs (st' := .int (nI ((sw (N1, T1, A1, B1, to1, pi1, fe1, pl1, go1, hi1, mi1, re1, lo1)).2)) :: []) rfl ?_
          refine KJ.eqw (ws' := [((a 0), .inr (1, [.ref (a 1), .ref (a 3), .ref (a 5), .ref (a 7), .ref (a 9), .ref (a 11), .ref (a 13), .int (nI pl2), .int (nI go2), .int hi2, .int mi2, .int re2, .int lo2])), ((a 1), .inr (0, [.ref (a 2), .int (nI N2.length)])), ((a 2), .inl (D.1 5, 40, .inl y02)), ((a 3), .inr (0, [.ref (a 4), .int (nI T2.length)])), ((a 4), .inl (D.1 5, 40, .inl y12)), ((a 5), .inr (0, [.ref (a 6), .int (nI A2.length)])), ((a 6), .inl (D.1 5, 40, .inl y22)), ((a 7), .inr (0, [.ref (a 8), .int (nI B2.length)])), ((a 8), .inl (D.1 5, 40, .inl y32)), ((a 9), .inr (2, [.ref (a 10)])), ((a 10), .inl (D.1 5, 40, .inl y42)), ((a 11), .inr (2, [.ref (a 12)])), ((a 12), .inl (D.1 5, 40, .inl y52)), ((a 13), .inr (2, [.ref (a 14)])), ((a 14), .inl (D.1 5, 40, .inl y62))]) rfl ?_
          refine k_pop hC 88 dX1_bring_88 rfl ?_
          refine k_aload_n hC 89 dX1_bring_89 rfl ?_
          refine k_iload_n hC 90 dX1_bring_90 rfl ?_
          refine k_iload_n hC 91 dX1_bring_91 rfl ?_
          refine k_iconst hC 92 dX1_bring_92 (nI 1) (by decide) ?_
          refine n_icmp_ne hC 93 103 dX1_bring_93 (by decide) (by omega) (by omega) (fun h93 => ?_) (fun h93 => ?_)
          · skip
            refine k_aload_n hC 103 dX1_bring_103 rfl ?_
            refine k_getf hC 104 0 1 dX1_bring_104 rfl rfl inlX1 (by decide) wq_2_2 rfl ?_
            refine k_callV hC 107 0 [0, 1, 2, 3, 4, 5, 6, 7, 8, 9, 10, 11, 12, 13, 14] (fun u => [((a 0), .inr (1, [.ref (a 1), .ref (a 3), .ref (a 5), .ref (a 7), .ref (a 9), .ref (a 11), .ref (a 13), .int (nI u.1.2.2.2.2.2.2.2.1), .int (nI u.1.2.2.2.2.2.2.2.2.1), .int u.1.2.2.2.2.2.2.2.2.2.1, .int u.1.2.2.2.2.2.2.2.2.2.2.1, .int u.1.2.2.2.2.2.2.2.2.2.2.2.1, .int u.1.2.2.2.2.2.2.2.2.2.2.2.2])), ((a 1), .inr (0, [.ref (a 2), .int (nI u.1.1.length)])), ((a 2), .inl (D.1 5, 40, .inl u.2.1)), ((a 3), .inr (0, [.ref (a 4), .int (nI u.1.2.1.length)])), ((a 4), .inl (D.1 5, 40, .inl u.2.2.1)), ((a 5), .inr (0, [.ref (a 6), .int (nI u.1.2.2.1.length)])), ((a 6), .inl (D.1 5, 40, .inl u.2.2.2.1)), ((a 7), .inr (0, [.ref (a 8), .int (nI u.1.2.2.2.1.length)])), ((a 8), .inl (D.1 5, 40, .inl u.2.2.2.2.1)), ((a 9), .inr (2, [.ref (a 10)])), ((a 10), .inl (D.1 5, 40, .inl u.2.2.2.2.2.1)), ((a 11), .inr (2, [.ref (a 12)])), ((a 12), .inl (D.1 5, 40, .inl u.2.2.2.2.2.2.1)), ((a 13), .inr (2, [.ref (a 14)])), ((a 14), .inl (D.1 5, 40, .inl u.2.2.2.2.2.2.2))]) (c_X1_placeNewJar1 l D a N2 T2 A2 B2 to2 pi2 fe2 pl2 go2 hi2 mi2 re2 lo2 y02 y12 y22 y32 y42 y52 y62 k o hS2 w2 hk h93) cw_RX1_107 dX1_bring_107 ⟨Nat.le_of_ble_eq_true rfl, Nat.le_of_ble_eq_true rfl, Nat.le_of_ble_eq_true rfl, Nat.le_of_ble_eq_true rfl⟩ rfl (Nat.le_of_ble_eq_true rfl) rfl rfl rfl (by decide) rfl (fun _ => Nat.le_of_ble_eq_true rfl) (fun _ => rfl) _ rfl (fun v u hp => ?_)
            obtain ⟨⟨N3, T3, A3, B3, to3, pi3, fe3, pl3, go3, hi3, mi3, re3, lo3⟩, y03, y13, y23, y33, y43, y53, y63⟩ := u
            obtain ⟨rfl, e3, hS3⟩ := hp
            have e3 : (N3, T3, A3, B3, to3, pi3, fe3, pl3, go3, hi3, mi3, re3, lo3) = plc (N2, T2, A2, B2, to2, pi2, fe2, pl2, go2, hi2, mi2, re2, lo2) k o := e3
            have hS3 : SR (N3, T3, A3, B3, to3, pi3, fe3, pl3, go3, hi3, mi3, re3, lo3) (y03, y13, y23, y33, y43, y53, y63) := hS3
            refine KJ.eqs (st' := []) rfl ?_
            refine KJ.eqw (ws' := [((a 0), .inr (1, [.ref (a 1), .ref (a 3), .ref (a 5), .ref (a 7), .ref (a 9), .ref (a 11), .ref (a 13), .int (nI pl3), .int (nI go3), .int hi3, .int mi3, .int re3, .int lo3])), ((a 1), .inr (0, [.ref (a 2), .int (nI N3.length)])), ((a 2), .inl (D.1 5, 40, .inl y03)), ((a 3), .inr (0, [.ref (a 4), .int (nI T3.length)])), ((a 4), .inl (D.1 5, 40, .inl y13)), ((a 5), .inr (0, [.ref (a 6), .int (nI A3.length)])), ((a 6), .inl (D.1 5, 40, .inl y23)), ((a 7), .inr (0, [.ref (a 8), .int (nI B3.length)])), ((a 8), .inl (D.1 5, 40, .inl y33)), ((a 9), .inr (2, [.ref (a 10)])), ((a 10), .inl (D.1 5, 40, .inl y43)), ((a 11), .inr (2, [.ref (a 12)])), ((a 12), .inl (D.1 5, 40, .inl y53)), ((a 13), .inr (2, [.ref (a 14)])), ((a 14), .inl (D.1 5, 40, .inl y63))]) rfl ?_
            refine k_iload_n hC 110 dX1_bring_110 rfl ?_
            exact k_iret hC hE 111 ((N3, T3, A3, B3, to3, pi3, fe3, pl3, go3, hi3, mi3, re3, lo3), (y03, y13, y23, y33, y43, y53, y63)) dX1_bring_111 rfl (⟨by rw [ho, ocI_n h4], by rw [br_m ho h15 h4, e3, mo2, e1], hS3⟩) rfl ⟨Nat.zero_le _, Nat.zero_le _⟩
          · skip
            refine k_aload_n hC 96 dX1_bring_96 rfl ?_
            refine k_getf hC 97 0 0 dX1_bring_97 rfl rfl inlX1 (by decide) wq_2_1 rfl ?_
            refine k_goto hC 100 107 dX1_bring_100 (by decide) ?_
            refine k_callV hC 107 0 [0, 1, 2, 3, 4, 5, 6, 7, 8, 9, 10, 11, 12, 13, 14] (fun u => [((a 0), .inr (1, [.ref (a 1), .ref (a 3), .ref (a 5), .ref (a 7), .ref (a 9), .ref (a 11), .ref (a 13), .int (nI u.1.2.2.2.2.2.2.2.1), .int (nI u.1.2.2.2.2.2.2.2.2.1), .int u.1.2.2.2.2.2.2.2.2.2.1, .int u.1.2.2.2.2.2.2.2.2.2.2.1, .int u.1.2.2.2.2.2.2.2.2.2.2.2.1, .int u.1.2.2.2.2.2.2.2.2.2.2.2.2])), ((a 1), .inr (0, [.ref (a 2), .int (nI u.1.1.length)])), ((a 2), .inl (D.1 5, 40, .inl u.2.1)), ((a 3), .inr (0, [.ref (a 4), .int (nI u.1.2.1.length)])), ((a 4), .inl (D.1 5, 40, .inl u.2.2.1)), ((a 5), .inr (0, [.ref (a 6), .int (nI u.1.2.2.1.length)])), ((a 6), .inl (D.1 5, 40, .inl u.2.2.2.1)), ((a 7), .inr (0, [.ref (a 8), .int (nI u.1.2.2.2.1.length)])), ((a 8), .inl (D.1 5, 40, .inl u.2.2.2.2.1)), ((a 9), .inr (2, [.ref (a 10)])), ((a 10), .inl (D.1 5, 40, .inl u.2.2.2.2.2.1)), ((a 11), .inr (2, [.ref (a 12)])), ((a 12), .inl (D.1 5, 40, .inl u.2.2.2.2.2.2.1)), ((a 13), .inr (2, [.ref (a 14)])), ((a 14), .inl (D.1 5, 40, .inl u.2.2.2.2.2.2.2))]) (c_X1_placeNewJar0 l D a N2 T2 A2 B2 to2 pi2 fe2 pl2 go2 hi2 mi2 re2 lo2 y02 y12 y22 y32 y42 y52 y62 k o hS2 w2 hk h93) cw_RX1_107 dX1_bring_107 ⟨Nat.le_of_ble_eq_true rfl, Nat.le_of_ble_eq_true rfl, Nat.le_of_ble_eq_true rfl, Nat.le_of_ble_eq_true rfl⟩ rfl (Nat.le_of_ble_eq_true rfl) rfl rfl rfl (by decide) rfl (fun _ => Nat.le_of_ble_eq_true rfl) (fun _ => rfl) _ rfl (fun v u hp => ?_)
            obtain ⟨⟨N3, T3, A3, B3, to3, pi3, fe3, pl3, go3, hi3, mi3, re3, lo3⟩, y03, y13, y23, y33, y43, y53, y63⟩ := u
            obtain ⟨rfl, e3, hS3⟩ := hp
            have e3 : (N3, T3, A3, B3, to3, pi3, fe3, pl3, go3, hi3, mi3, re3, lo3) = plc (N2, T2, A2, B2, to2, pi2, fe2, pl2, go2, hi2, mi2, re2, lo2) k o := e3
            have hS3 : SR (N3, T3, A3, B3, to3, pi3, fe3, pl3, go3, hi3, mi3, re3, lo3) (y03, y13, y23, y33, y43, y53, y63) := hS3
            refine KJ.eqs (st' := []) rfl ?_
            refine KJ.eqw (ws' := [((a 0), .inr (1, [.ref (a 1), .ref (a 3), .ref (a 5), .ref (a 7), .ref (a 9), .ref (a 11), .ref (a 13), .int (nI pl3), .int (nI go3), .int hi3, .int mi3, .int re3, .int lo3])), ((a 1), .inr (0, [.ref (a 2), .int (nI N3.length)])), ((a 2), .inl (D.1 5, 40, .inl y03)), ((a 3), .inr (0, [.ref (a 4), .int (nI T3.length)])), ((a 4), .inl (D.1 5, 40, .inl y13)), ((a 5), .inr (0, [.ref (a 6), .int (nI A3.length)])), ((a 6), .inl (D.1 5, 40, .inl y23)), ((a 7), .inr (0, [.ref (a 8), .int (nI B3.length)])), ((a 8), .inl (D.1 5, 40, .inl y33)), ((a 9), .inr (2, [.ref (a 10)])), ((a 10), .inl (D.1 5, 40, .inl y43)), ((a 11), .inr (2, [.ref (a 12)])), ((a 12), .inl (D.1 5, 40, .inl y53)), ((a 13), .inr (2, [.ref (a 14)])), ((a 14), .inl (D.1 5, 40, .inl y63))]) rfl ?_
            refine k_iload_n hC 110 dX1_bring_110 rfl ?_
            exact k_iret hC hE 111 ((N3, T3, A3, B3, to3, pi3, fe3, pl3, go3, hi3, mi3, re3, lo3), (y03, y13, y23, y33, y43, y53, y63)) dX1_bring_111 rfl (⟨by rw [ho, ocI_n h4], by rw [br_m ho h15 h4, e3, mo2, e1], hS3⟩) rfl ⟨Nat.zero_le _, Nat.zero_le _⟩
      · skip
        refine k_aload_n hC 18 dX1_bring_18 rfl ?_
        refine k_dup hC 19 dX1_bring_19 rfl ?_
        refine k_getf hC 20 0 9 dX1_bring_20 rfl rfl inlX1 (by decide) wq_4_5 rfl ?_
        refine k_iconst hC 23 dX1_bring_23 (nI 1) (by decide) ?_
        refine k_iadd hC 24 dX1_bring_24 (KJ.topi (y := (hi + 1)) rfl ?_)
        refine k_putf hC 25 (ty0 := tyX1) 0 9 [((a 0), .inr (1, [.ref (a 1), .ref (a 3), .ref (a 5), .ref (a 7), .ref (a 9), .ref (a 11), .ref (a 13), .int (nI pl), .int (nI go), .int (hi + 1), .int mi, .int re, .int lo])), ((a 1), .inr (0, [.ref (a 2), .int (nI N.length)])), ((a 2), .inl (D.1 5, 40, .inl g0)), ((a 3), .inr (0, [.ref (a 4), .int (nI T.length)])), ((a 4), .inl (D.1 5, 40, .inl g1)), ((a 5), .inr (0, [.ref (a 6), .int (nI A.length)])), ((a 6), .inl (D.1 5, 40, .inl g2)), ((a 7), .inr (0, [.ref (a 8), .int (nI B.length)])), ((a 8), .inl (D.1 5, 40, .inl g3)), ((a 9), .inr (2, [.ref (a 10)])), ((a 10), .inl (D.1 5, 40, .inl g4)), ((a 11), .inr (2, [.ref (a 12)])), ((a 12), .inl (D.1 5, 40, .inl g5)), ((a 13), .inr (2, [.ref (a 14)])), ((a 14), .inl (D.1 5, 40, .inl g6))] dX1_bring_25 rfl rfl inlX1 tyX1_ok nmX1 (by decide) wq_4_5 rfl rfl rfl (Nat.le_of_ble_eq_true rfl) rfl ?_
        refine k_aload_n hC 28 dX1_bring_28 rfl ?_
        refine k_getf hC 29 0 4 dX1_bring_29 rfl rfl inlX1 (by decide) wq_2_8 rfl ?_
        refine k_iload_n hC 32 dX1_bring_32 rfl ?_
        refine k_iconst hC 33 dX1_bring_33 (nI 1) (by decide) ?_
        refine k_callV hC 34 9 [9, 10] (fun _ => [((a 0), .inr (1, [.ref (a 1), .ref (a 3), .ref (a 5), .ref (a 7), .ref (a 9), .ref (a 11), .ref (a 13), .int (nI pl), .int (nI go), .int (hi + 1), .int mi, .int re, .int lo])), ((a 1), .inr (0, [.ref (a 2), .int (nI N.length)])), ((a 2), .inl (D.1 5, 40, .inl g0)), ((a 3), .inr (0, [.ref (a 4), .int (nI T.length)])), ((a 4), .inl (D.1 5, 40, .inl g1)), ((a 5), .inr (0, [.ref (a 6), .int (nI A.length)])), ((a 6), .inl (D.1 5, 40, .inl g2)), ((a 7), .inr (0, [.ref (a 8), .int (nI B.length)])), ((a 8), .inl (D.1 5, 40, .inl g3)), ((a 9), .inr (2, [.ref (a 10)])), ((a 10), .inl (D.1 5, 40, .inl (upd g4 k (nI 1)))), ((a 11), .inr (2, [.ref (a 12)])), ((a 12), .inl (D.1 5, 40, .inl g5)), ((a 13), .inr (2, [.ref (a 14)])), ((a 14), .inl (D.1 5, 40, .inl g6))]) (c_X2_put l D (a 9) (a 10) g4 k (nI 1) hk) cw_RX1_97 dX1_bring_34 ⟨Nat.le_of_ble_eq_true rfl, Nat.le_of_ble_eq_true rfl, Nat.le_of_ble_eq_true rfl, Nat.le_of_ble_eq_true rfl⟩ rfl (Nat.le_of_ble_eq_true rfl) rfl rfl rfl (by decide) rfl (fun _ => Nat.le_of_ble_eq_true rfl) (fun _ => rfl) _ rfl (fun v _ hp => ?_)
        obtain rfl := hp
        refine KJ.eqs (st' := []) rfl ?_
        refine k_aload_n hC 37 dX1_bring_37 rfl ?_
        refine k_getf hC 38 0 6 dX1_bring_38 rfl rfl inlX1 (by decide) wq_2_10 rfl ?_
        refine k_iload_n hC 41 dX1_bring_41 rfl ?_
        refine k_aload_n hC 42 dX1_bring_42 rfl ?_
        refine k_getf hC 43 0 6 dX1_bring_43 rfl rfl inlX1 (by decide) wq_2_10 rfl ?_
        refine k_iload_n hC 46 dX1_bring_46 rfl ?_
        refine k_callVr hC 47 13 [13, 14] (c_X2_of l D (a 13) (a 14) g6 k hk) cw_RX1_81 dX1_bring_47 ⟨Nat.le_of_ble_eq_true rfl, Nat.le_of_ble_eq_true rfl, Nat.le_of_ble_eq_true rfl, Nat.le_of_ble_eq_true rfl⟩ rfl (Nat.le_of_ble_eq_true rfl) rfl rfl rfl (by decide) rfl (fun _ => Nat.le_of_ble_eq_true rfl) (fun _ => rfl) _ rfl (fun v u hp => ?_)
        obtain rfl := hp
        refine KJ.eqs (st' := .int (g6 k) :: .int (nI k) :: .ref (a 13) :: []) rfl ?_
        refine KJ.topi (y := (fe k)) (r6 k hk) ?_
        refine k_iconst hC 50 dX1_bring_50 (nI 1) (by decide) ?_
        refine k_iadd hC 51 dX1_bring_51 (KJ.topi (y := (fe k + 1)) rfl ?_)
        refine k_callV hC 52 13 [13, 14] (fun _ => [((a 0), .inr (1, [.ref (a 1), .ref (a 3), .ref (a 5), .ref (a 7), .ref (a 9), .ref (a 11), .ref (a 13), .int (nI pl), .int (nI go), .int (hi + 1), .int mi, .int re, .int lo])), ((a 1), .inr (0, [.ref (a 2), .int (nI N.length)])), ((a 2), .inl (D.1 5, 40, .inl g0)), ((a 3), .inr (0, [.ref (a 4), .int (nI T.length)])), ((a 4), .inl (D.1 5, 40, .inl g1)), ((a 5), .inr (0, [.ref (a 6), .int (nI A.length)])), ((a 6), .inl (D.1 5, 40, .inl g2)), ((a 7), .inr (0, [.ref (a 8), .int (nI B.length)])), ((a 8), .inl (D.1 5, 40, .inl g3)), ((a 9), .inr (2, [.ref (a 10)])), ((a 10), .inl (D.1 5, 40, .inl (upd g4 k (nI 1)))), ((a 11), .inr (2, [.ref (a 12)])), ((a 12), .inl (D.1 5, 40, .inl g5)), ((a 13), .inr (2, [.ref (a 14)])), ((a 14), .inl (D.1 5, 40, .inl (upd g6 k (fe k + 1))))]) (c_X2_put l D (a 13) (a 14) g6 k (fe k + 1) hk) cw_RX1_97 dX1_bring_52 ⟨Nat.le_of_ble_eq_true rfl, Nat.le_of_ble_eq_true rfl, Nat.le_of_ble_eq_true rfl, Nat.le_of_ble_eq_true rfl⟩ rfl (Nat.le_of_ble_eq_true rfl) rfl rfl rfl (by decide) rfl (fun _ => Nat.le_of_ble_eq_true rfl) (fun _ => rfl) _ rfl (fun v _ hp => ?_)
        obtain rfl := hp
        refine KJ.eqs (st' := []) rfl ?_
        refine k_iload_n hC 55 dX1_bring_55 rfl ?_
        exact k_iret hC hE 56 ((N, T, A, B, va_up to k 1, pi, va_up fe k (fe k + 1), pl, go, hi + 1, mi, re, lo), (g0, g1, g2, g3, upd g4 k (nI 1), g5, upd g6 k (fe k + 1))) dX1_bring_56 rfl (⟨by rw [ho, ocI_n h4], by rw [br_0 (ho.trans h15)]; rfl, r0, r1, r2, r3, tup r4 k 1, r5, tupI r6 k (fe k + 1)⟩) rfl ⟨Nat.zero_le _, Nat.zero_le _⟩
    · skip
      exact absurd h9 (nI_m9 (by omega))
end
