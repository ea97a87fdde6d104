section
-- ===== PART A: goes FIRST, ahead of the names: the tables' words, and 'selects' of the private methods out of them =====
/-- a private method of a class that the tables say can be made, by its rows of tables_1 -/
def lw_okq (q : MethodName × Nat) : Prop := (q.1.cls ≠ "java/lang/invoke/MethodHandle" ∧ q.1.cls ≠ "java/lang/invoke/VarHandle") ∧ Cond.instantiable q.1.cls q.2 ∈ tables_1 ∧ Cond.privateMethod q.1 ∈ tables_1 ∧ Cond.instanceMethod q.1 ∈ tables_1
theorem lw_p0 : lw_okq (⟨"StableHeap", "wordsInLog", "()I"⟩, 11) := ⟨⟨by decide +kernel, by decide +kernel⟩, List.mem_of_getElem? (i := 16) (by decide +kernel), List.mem_of_getElem? (i := 133) (by decide +kernel), List.mem_of_getElem? (i := 134) (by decide +kernel)⟩
theorem lw_p1 : lw_okq (⟨"StableHeap", "end", "(LStableHeap$Transaction;Z)I"⟩, 11) := ⟨⟨by decide +kernel, by decide +kernel⟩, List.mem_of_getElem? (i := 16) (by decide +kernel), List.mem_of_getElem? (i := 145) (by decide +kernel), List.mem_of_getElem? (i := 146) (by decide +kernel)⟩
theorem lw_p2 : lw_okq (⟨"StableHeap", "findHeld", "()V"⟩, 11) := ⟨⟨by decide +kernel, by decide +kernel⟩, List.mem_of_getElem? (i := 16) (by decide +kernel), List.mem_of_getElem? (i := 165) (by decide +kernel), List.mem_of_getElem? (i := 166) (by decide +kernel)⟩
theorem lw_p3 : lw_okq (⟨"StableHeap", "holdTargets", "(LStableHeap$Lockable;)V"⟩, 11) := ⟨⟨by decide +kernel, by decide +kernel⟩, List.mem_of_getElem? (i := 16) (by decide +kernel), List.mem_of_getElem? (i := 169) (by decide +kernel), List.mem_of_getElem? (i := 170) (by decide +kernel)⟩
theorem lw_p4 : lw_okq (⟨"StableHeap", "hold", "(LStableHeap$Lockable;)V"⟩, 11) := ⟨⟨by decide +kernel, by decide +kernel⟩, List.mem_of_getElem? (i := 16) (by decide +kernel), List.mem_of_getElem? (i := 173) (by decide +kernel), List.mem_of_getElem? (i := 174) (by decide +kernel)⟩
theorem lw_p5 : lw_okq (⟨"StableHeap", "flip", "()V"⟩, 11) := ⟨⟨by decide +kernel, by decide +kernel⟩, List.mem_of_getElem? (i := 16) (by decide +kernel), List.mem_of_getElem? (i := 178) (by decide +kernel), List.mem_of_getElem? (i := 179) (by decide +kernel)⟩
theorem lw_p6 : lw_okq (⟨"StableHeap", "unusedTransaction", "()LStableHeap$Transaction;"⟩, 11) := ⟨⟨by decide +kernel, by decide +kernel⟩, List.mem_of_getElem? (i := 16) (by decide +kernel), List.mem_of_getElem? (i := 196) (by decide +kernel), List.mem_of_getElem? (i := 197) (by decide +kernel)⟩
theorem lw_p7 : lw_okq (⟨"java/lang/Throwable", "fillInStackTrace", "(I)Ljava/lang/Throwable;"⟩, 6) := ⟨⟨by decide +kernel, by decide +kernel⟩, List.mem_of_getElem? (i := 241) (by decide +kernel), List.mem_of_getElem? (i := 239) (by decide +kernel), List.mem_of_getElem? (i := 240) (by decide +kernel)⟩
theorem lw_p8 : lw_okq (⟨"StableHeap", "writeRecord", "(LStableHeap$Transaction;I)V"⟩, 11) := ⟨⟨by decide +kernel, by decide +kernel⟩, List.mem_of_getElem? (i := 16) (by decide +kernel), List.mem_of_getElem? (i := 271) (by decide +kernel), List.mem_of_getElem? (i := 272) (by decide +kernel)⟩
theorem lw_p9 : lw_okq (⟨"StableHeap", "activeTransaction", "(I)LStableHeap$Transaction;"⟩, 11) := ⟨⟨by decide +kernel, by decide +kernel⟩, List.mem_of_getElem? (i := 16) (by decide +kernel), List.mem_of_getElem? (i := 300) (by decide +kernel), List.mem_of_getElem? (i := 301) (by decide +kernel)⟩
theorem lw_p10 : lw_okq (⟨"StableHeap", "objectWith", "(I)LStableHeap$Lockable;"⟩, 11) := ⟨⟨by decide +kernel, by decide +kernel⟩, List.mem_of_getElem? (i := 16) (by decide +kernel), List.mem_of_getElem? (i := 345) (by decide +kernel), List.mem_of_getElem? (i := 346) (by decide +kernel)⟩
theorem lw_p11 : lw_okq (⟨"StableHeap", "findObject", "(I)LStableHeap$Lockable;"⟩, 11) := ⟨⟨by decide +kernel, by decide +kernel⟩, List.mem_of_getElem? (i := 16) (by decide +kernel), List.mem_of_getElem? (i := 349) (by decide +kernel), List.mem_of_getElem? (i := 350) (by decide +kernel)⟩
theorem lw_p12 : lw_okq (⟨"StableHeap$Place", "rememberFormer", "()V"⟩, 7) := ⟨⟨by decide +kernel, by decide +kernel⟩, List.mem_of_getElem? (i := 32) (by decide +kernel), List.mem_of_getElem? (i := 381) (by decide +kernel), List.mem_of_getElem? (i := 382) (by decide +kernel)⟩
theorem lw_p13 : lw_okq (⟨"StableHeap", "refer", "(LStableHeap$Transaction;LStableHeap$Lockable;LStableHeap$Place;I)V"⟩, 11) := ⟨⟨by decide +kernel, by decide +kernel⟩, List.mem_of_getElem? (i := 16) (by decide +kernel), List.mem_of_getElem? (i := 392) (by decide +kernel), List.mem_of_getElem? (i := 393) (by decide +kernel)⟩
theorem lw_p14 : lw_okq (⟨"StableHeap", "rootAt", "(I)LStableHeap$Lockable;"⟩, 11) := ⟨⟨by decide +kernel, by decide +kernel⟩, List.mem_of_getElem? (i := 16) (by decide +kernel), List.mem_of_getElem? (i := 408) (by decide +kernel), List.mem_of_getElem? (i := 409) (by decide +kernel)⟩
theorem lw_p15 : lw_okq (⟨"StableHeap", "readField", "(III)LStableHeap$Place;"⟩, 11) := ⟨⟨by decide +kernel, by decide +kernel⟩, List.mem_of_getElem? (i := 16) (by decide +kernel), List.mem_of_getElem? (i := 421) (by decide +kernel), List.mem_of_getElem? (i := 422) (by decide +kernel)⟩
def lw_privs_1 : List (MethodName × Nat) := [(⟨"StableHeap", "wordsInLog", "()I"⟩, 11), (⟨"StableHeap", "end", "(LStableHeap$Transaction;Z)I"⟩, 11), (⟨"StableHeap", "findHeld", "()V"⟩, 11), (⟨"StableHeap", "holdTargets", "(LStableHeap$Lockable;)V"⟩, 11), (⟨"StableHeap", "hold", "(LStableHeap$Lockable;)V"⟩, 11), (⟨"StableHeap", "flip", "()V"⟩, 11), (⟨"StableHeap", "unusedTransaction", "()LStableHeap$Transaction;"⟩, 11), (⟨"java/lang/Throwable", "fillInStackTrace", "(I)Ljava/lang/Throwable;"⟩, 6), (⟨"StableHeap", "writeRecord", "(LStableHeap$Transaction;I)V"⟩, 11), (⟨"StableHeap", "activeTransaction", "(I)LStableHeap$Transaction;"⟩, 11), (⟨"StableHeap", "objectWith", "(I)LStableHeap$Lockable;"⟩, 11), (⟨"StableHeap", "findObject", "(I)LStableHeap$Lockable;"⟩, 11), (⟨"StableHeap$Place", "rememberFormer", "()V"⟩, 7), (⟨"StableHeap", "refer", "(LStableHeap$Transaction;LStableHeap$Lockable;LStableHeap$Place;I)V"⟩, 11), (⟨"StableHeap", "rootAt", "(I)LStableHeap$Lockable;"⟩, 11), (⟨"StableHeap", "readField", "(III)LStableHeap$Place;"⟩, 11)]
theorem lw_r1 : ∀ q ∈ lw_privs_1, lw_okq q := List.forall_mem_cons.mpr ⟨lw_p0, List.forall_mem_cons.mpr ⟨lw_p1, List.forall_mem_cons.mpr ⟨lw_p2, List.forall_mem_cons.mpr ⟨lw_p3, List.forall_mem_cons.mpr ⟨lw_p4, List.forall_mem_cons.mpr ⟨lw_p5, List.forall_mem_cons.mpr ⟨lw_p6, List.forall_mem_cons.mpr ⟨lw_p7, List.forall_mem_cons.mpr ⟨lw_p8, List.forall_mem_cons.mpr ⟨lw_p9, List.forall_mem_cons.mpr ⟨lw_p10, List.forall_mem_cons.mpr ⟨lw_p11, List.forall_mem_cons.mpr ⟨lw_p12, List.forall_mem_cons.mpr ⟨lw_p13, List.forall_mem_cons.mpr ⟨lw_p14, List.forall_mem_cons.mpr ⟨lw_p15, fun _ h => absurd h List.not_mem_nil⟩⟩⟩⟩⟩⟩⟩⟩⟩⟩⟩⟩⟩⟩⟩⟩
theorem lw_p16 : lw_okq (⟨"StableHeap", "activeTransactions", "()I"⟩, 11) := ⟨⟨by decide +kernel, by decide +kernel⟩, List.mem_of_getElem? (i := 16) (by decide +kernel), List.mem_of_getElem? (i := 494) (by decide +kernel), List.mem_of_getElem? (i := 495) (by decide +kernel)⟩
theorem lw_p17 : lw_okq (⟨"StableHeapModel", "actives", "()I"⟩, 21) := ⟨⟨by decide +kernel, by decide +kernel⟩, List.mem_of_getElem? (i := 499) (by decide +kernel), List.mem_of_getElem? (i := 579) (by decide +kernel), List.mem_of_getElem? (i := 580) (by decide +kernel)⟩
theorem lw_p18 : lw_okq (⟨"StableHeapModel", "raise", "(I)I"⟩, 21) := ⟨⟨by decide +kernel, by decide +kernel⟩, List.mem_of_getElem? (i := 499) (by decide +kernel), List.mem_of_getElem? (i := 583) (by decide +kernel), List.mem_of_getElem? (i := 584) (by decide +kernel)⟩
theorem lw_p19 : lw_okq (⟨"StableHeapModel", "log", "()I"⟩, 21) := ⟨⟨by decide +kernel, by decide +kernel⟩, List.mem_of_getElem? (i := 499) (by decide +kernel), List.mem_of_getElem? (i := 587) (by decide +kernel), List.mem_of_getElem? (i := 588) (by decide +kernel)⟩
theorem lw_p20 : lw_okq (⟨"StableHeapModel", "place", "(I)I"⟩, 21) := ⟨⟨by decide +kernel, by decide +kernel⟩, List.mem_of_getElem? (i := 499) (by decide +kernel), List.mem_of_getElem? (i := 595) (by decide +kernel), List.mem_of_getElem? (i := 596) (by decide +kernel)⟩
theorem lw_p21 : lw_okq (⟨"StableHeapModel", "cell", "(III)I"⟩, 21) := ⟨⟨by decide +kernel, by decide +kernel⟩, List.mem_of_getElem? (i := 499) (by decide +kernel), List.mem_of_getElem? (i := 606) (by decide +kernel), List.mem_of_getElem? (i := 607) (by decide +kernel)⟩
theorem lw_p22 : lw_okq (⟨"StableHeapModel", "row", "(I)I"⟩, 21) := ⟨⟨by decide +kernel, by decide +kernel⟩, List.mem_of_getElem? (i := 499) (by decide +kernel), List.mem_of_getElem? (i := 610) (by decide +kernel), List.mem_of_getElem? (i := 611) (by decide +kernel)⟩
theorem lw_p23 : lw_okq (⟨"StableHeapModel", "set", "(IIZI)I"⟩, 21) := ⟨⟨by decide +kernel, by decide +kernel⟩, List.mem_of_getElem? (i := 499) (by decide +kernel), List.mem_of_getElem? (i := 614) (by decide +kernel), List.mem_of_getElem? (i := 615) (by decide +kernel)⟩
theorem lw_p24 : lw_okq (⟨"StableHeapModel", "replaced", "(II)Z"⟩, 21) := ⟨⟨by decide +kernel, by decide +kernel⟩, List.mem_of_getElem? (i := 499) (by decide +kernel), List.mem_of_getElem? (i := 618) (by decide +kernel), List.mem_of_getElem? (i := 619) (by decide +kernel)⟩
theorem lw_p25 : lw_okq (⟨"StableHeapModel", "lockCell", "(II)V"⟩, 21) := ⟨⟨by decide +kernel, by decide +kernel⟩, List.mem_of_getElem? (i := 499) (by decide +kernel), List.mem_of_getElem? (i := 622) (by decide +kernel), List.mem_of_getElem? (i := 623) (by decide +kernel)⟩
theorem lw_p26 : lw_okq (⟨"StableHeapModel", "assign", "(IZI)V"⟩, 21) := ⟨⟨by decide +kernel, by decide +kernel⟩, List.mem_of_getElem? (i := 499) (by decide +kernel), List.mem_of_getElem? (i := 626) (by decide +kernel), List.mem_of_getElem? (i := 627) (by decide +kernel)⟩
theorem lw_p27 : lw_okq (⟨"StableHeapModel", "refer", "(III)I"⟩, 21) := ⟨⟨by decide +kernel, by decide +kernel⟩, List.mem_of_getElem? (i := 499) (by decide +kernel), List.mem_of_getElem? (i := 634) (by decide +kernel), List.mem_of_getElem? (i := 635) (by decide +kernel)⟩
theorem lw_p28 : lw_okq (⟨"StableHeapModel", "rootCell", "(II)I"⟩, 21) := ⟨⟨by decide +kernel, by decide +kernel⟩, List.mem_of_getElem? (i := 499) (by decide +kernel), List.mem_of_getElem? (i := 642) (by decide +kernel), List.mem_of_getElem? (i := 643) (by decide +kernel)⟩
theorem lw_p29 : lw_okq (⟨"StableHeapModel", "get", "(IIIZ)I"⟩, 21) := ⟨⟨by decide +kernel, by decide +kernel⟩, List.mem_of_getElem? (i := 499) (by decide +kernel), List.mem_of_getElem? (i := 650) (by decide +kernel), List.mem_of_getElem? (i := 651) (by decide +kernel)⟩
theorem lw_p30 : lw_okq (⟨"StableHeapModel", "end", "(IZ)I"⟩, 21) := ⟨⟨by decide +kernel, by decide +kernel⟩, List.mem_of_getElem? (i := 499) (by decide +kernel), List.mem_of_getElem? (i := 666) (by decide +kernel), List.mem_of_getElem? (i := 667) (by decide +kernel)⟩
theorem lw_p31 : lw_okq (⟨"StableHeapModel", "forget", "(IZ)V"⟩, 21) := ⟨⟨by decide +kernel, by decide +kernel⟩, List.mem_of_getElem? (i := 499) (by decide +kernel), List.mem_of_getElem? (i := 670) (by decide +kernel), List.mem_of_getElem? (i := 671) (by decide +kernel)⟩
def lw_privs_2 : List (MethodName × Nat) := [(⟨"StableHeap", "activeTransactions", "()I"⟩, 11), (⟨"StableHeapModel", "actives", "()I"⟩, 21), (⟨"StableHeapModel", "raise", "(I)I"⟩, 21), (⟨"StableHeapModel", "log", "()I"⟩, 21), (⟨"StableHeapModel", "place", "(I)I"⟩, 21), (⟨"StableHeapModel", "cell", "(III)I"⟩, 21), (⟨"StableHeapModel", "row", "(I)I"⟩, 21), (⟨"StableHeapModel", "set", "(IIZI)I"⟩, 21), (⟨"StableHeapModel", "replaced", "(II)Z"⟩, 21), (⟨"StableHeapModel", "lockCell", "(II)V"⟩, 21), (⟨"StableHeapModel", "assign", "(IZI)V"⟩, 21), (⟨"StableHeapModel", "refer", "(III)I"⟩, 21), (⟨"StableHeapModel", "rootCell", "(II)I"⟩, 21), (⟨"StableHeapModel", "get", "(IIIZ)I"⟩, 21), (⟨"StableHeapModel", "end", "(IZ)I"⟩, 21), (⟨"StableHeapModel", "forget", "(IZ)V"⟩, 21)]
theorem lw_r2 : ∀ q ∈ lw_privs_2, lw_okq q := List.forall_mem_cons.mpr ⟨lw_p16, List.forall_mem_cons.mpr ⟨lw_p17, List.forall_mem_cons.mpr ⟨lw_p18, List.forall_mem_cons.mpr ⟨lw_p19, List.forall_mem_cons.mpr ⟨lw_p20, List.forall_mem_cons.mpr ⟨lw_p21, List.forall_mem_cons.mpr ⟨lw_p22, List.forall_mem_cons.mpr ⟨lw_p23, List.forall_mem_cons.mpr ⟨lw_p24, List.forall_mem_cons.mpr ⟨lw_p25, List.forall_mem_cons.mpr ⟨lw_p26, List.forall_mem_cons.mpr ⟨lw_p27, List.forall_mem_cons.mpr ⟨lw_p28, List.forall_mem_cons.mpr ⟨lw_p29, List.forall_mem_cons.mpr ⟨lw_p30, List.forall_mem_cons.mpr ⟨lw_p31, fun _ h => absurd h List.not_mem_nil⟩⟩⟩⟩⟩⟩⟩⟩⟩⟩⟩⟩⟩⟩⟩⟩
theorem lw_p32 : lw_okq (⟨"StableHeapModel", "unlock", "(I)I"⟩, 21) := ⟨⟨by decide +kernel, by decide +kernel⟩, List.mem_of_getElem? (i := 499) (by decide +kernel), List.mem_of_getElem? (i := 674) (by decide +kernel), List.mem_of_getElem? (i := 675) (by decide +kernel)⟩
theorem lw_p33 : lw_okq (⟨"StableHeapModel", "markHeld", "()I"⟩, 21) := ⟨⟨by decide +kernel, by decide +kernel⟩, List.mem_of_getElem? (i := 499) (by decide +kernel), List.mem_of_getElem? (i := 694) (by decide +kernel), List.mem_of_getElem? (i := 695) (by decide +kernel)⟩
theorem lw_p34 : lw_okq (⟨"StableHeapModel", "hold", "(I)V"⟩, 21) := ⟨⟨by decide +kernel, by decide +kernel⟩, List.mem_of_getElem? (i := 499) (by decide +kernel), List.mem_of_getElem? (i := 698) (by decide +kernel), List.mem_of_getElem? (i := 699) (by decide +kernel)⟩
def lw_privs_3 : List (MethodName × Nat) := [(⟨"StableHeapModel", "unlock", "(I)I"⟩, 21), (⟨"StableHeapModel", "markHeld", "()I"⟩, 21), (⟨"StableHeapModel", "hold", "(I)V"⟩, 21)]
theorem lw_r3 : ∀ q ∈ lw_privs_3, lw_okq q := List.forall_mem_cons.mpr ⟨lw_p32, List.forall_mem_cons.mpr ⟨lw_p33, List.forall_mem_cons.mpr ⟨lw_p34, fun _ h => absurd h List.not_mem_nil⟩⟩⟩
def lw_privs : List (MethodName × Nat) := lw_privs_1 ++ (lw_privs_2 ++ (lw_privs_3))
def lw_tbl : List Cond := k2_sels lw_privs ++ tables_1
theorem lw_privs_ok : ∀ q ∈ lw_privs, lw_okq q := by
  show ∀ q ∈ lw_privs_1 ++ (lw_privs_2 ++ (lw_privs_3)), lw_okq q
  exact List.forall_mem_append.mpr ⟨lw_r1, List.forall_mem_append.mpr ⟨lw_r2, lw_r3⟩⟩
end
section
/-! ===== BEGIN words of one list among another's, by their places ===== -/
theorem goodIn_r {big : List Cond} (ws : List Cond) (ps : List Nat) (hp : ws = ps.filterMap (fun i => big[i]?)) (h : ws.all goodWord = true) : GoodIn big ws := by
  intro w hw
  have h1 := List.all_eq_true.mp h w hw
  rw [hp] at hw
  obtain ⟨i, -, hi⟩ := List.mem_filterMap.mp hw
  have hm : w ∈ big := by first | exact List.mem_of_getElem? hi | exact List.getElem?_mem hi
  exact ⟨hm, good_of_word h1⟩
theorem goodIn_app {big a b : List Cond} (ha : GoodIn big a) (hb : GoodIn big b) : GoodIn big (a ++ b) := fun w h => (List.mem_append.mp h).elim (ha w) (hb w)
theorem goodIn_ca {big a b : List Cond} {c : Cond} (ha : GoodIn big (c :: a)) (hb : GoodIn big b) : GoodIn big (c :: (a ++ b)) := fun w h => (List.mem_cons.mp h).elim (fun e => ha w (List.mem_cons.mpr (Or.inl e))) (fun h => (List.mem_append.mp h).elim (fun h => ha w (List.mem_cons.mpr (Or.inr h))) (hb w))
theorem goodIn_sub {big ws : List Cond} (hm : ∀ w ∈ ws, w ∈ big) (h : ws.all goodWord = true) : GoodIn big ws := fun w hw => ⟨hm w hw, good_of_word (List.all_eq_true.mp h w hw)⟩
/-! ===== END ===== -/

/-! ===== BEGIN exceptions that leave a method, and their catching by the caller (launches without stack traces) ===== -/
section VXA
/-! The laws vx_back, vx_callV, vx_callS, vx_callSW, vx_throw0, vx_throwS follow proofs of the library, with one case more: JvmDerived/Free/Laws.lean (Back.of_free), Shelf42/LK1.lean (callV, callS), Shelf/KitTraced.lean (throwNew0V, throwNewS). -/
/-- where a method has thrown q: the class by its name, the cell, what was written, the world -/
def vx_T (XC : String → State → State → Prop) (st : State) (q : Addr) (t : State) (mc ms : Nat) (free : Addr → Prop) : Prop :=
  ∃ (E : String) (ce : Cell) (L : List Loc), XC E st t ∧ t.heap[q]? = some ce ∧ ce.vm = .none ∧ st.vm.findClass E = some ce.cls ∧ st.WarmedH t.vm ∧ st.sameButNew ({ t with vm := st.vm } : State) L mc ms ∧ ∀ z ∈ L, free z.base
def vx_Q (Qc : Array Value → State → Outcome → State → Prop) (XC : String → State → State → Prop) (mc ms : Nat) (free : Addr → Prop) : Array Value → State → Outcome → State → Prop := fun a st o t =>
  (Qc a st o t ∧ ∃ L, FrameEnd st o t L mc ms ∧ ∀ q ∈ L, free q.base) ∨ ∃ q, o = .threw q ∧ vx_T XC st q t mc ms free
/-- a callee that returns or throws -/
def vx_Met (l : Launch) (y : MethodName) (ws : List Cond) (rm : Room) (Pc : Array Value → State → Prop) (Qc : Array Value → State → Outcome → State → Prop) (XC : String → State → State → Prop) (mc ms : Nat) (free : Addr → Prop) : Prop :=
  MetFree l y (headSpec ws rm) Pc (fun _ _ _ _ _ => True) (vx_Q Qc XC mc ms free)
def vx_Post (XC : String → State → State → Prop) (mc ms : Nat) (free : Addr → Prop) : Pt → Array Value → Addr → Pt → Prop := fun A a q B =>
  ∃ (g : JFrame) (mk : MethodId) (t : State) (L : List Loc) (E : String) (ce : Cell), B.U.heap = t.heap ∧ B.U.vm = t.vm ∧ XC E (A.U.calling g mk a) t ∧ t.heap[q]? = some ce ∧ ce.vm = .none ∧ A.U.vm.findClass E = some ce.cls ∧ B.locs = A.locs ++ L ∧ (∀ z ∈ L, free z.base) ∧ B.cells = A.cells + mc ∧ B.slots = A.slots + ms
def vx_Back (l : Launch) (R : Room) (p : Program) (e : Env) (below : List Frame) (s : State) (sargs : Array Value) (y : MethodName) (len W9 : Nat)
    (Pre : Pt → Array Value → Prop) (Post : Pt → Array Value → Option Value → Pt → Prop) (PostX : Pt → Array Value → Addr → Pt → Prop) : Prop :=
  ∀ (m : MethodId) (meth : Method) (c : Code) (A : Pt) (g : JFrame) (ig : Instr) (mk : MethodId) (a : Array Value),
    Stand p l e R s m sargs below meth c A.U A.locs A.cells A.slots → g.method = m → g.locals.size = c.maxLocals → decode c.code g.pc = .ok (ig, len) →
    2 * g.monitorRoom + (g.stack.map fun v => v.category).sum ≤ W9 → A.U.methodNamed? y = some mk → Pre A a →
    (∃ (v : Option Value) (B : Pt), Stand p l e R s m sargs below meth c B.U B.locs B.cells B.slots ∧ Post A a v B ∧
      Steps p.tables e below (doInvoke e (A.U.setTop g) [] mk a).1 (B.U.setTop { g with pc := g.pc + len, stack := v.toList ++ g.stack })) ∨
    (∃ (q : Addr) (B : Pt), Stand p l e R s m sargs below meth c B.U B.locs B.cells B.slots ∧ PostX A a q B ∧
      Steps p.tables e below (doInvoke e (A.U.setTop g) [] mk a).1 ((B.U.setTop g).pushFrame (.throwing q)))
section Payer
variable {l : Launch} {R : Room} {p : Program} {e : Env} {below : List Frame} {s : State} {sargs : Array Value} {y : MethodName} {len W9 : Nat}
theorem vx_back {ws : List Cond} {rm : Room} {Pc : Array Value → State → Prop} {Qc : Array Value → State → Outcome → State → Prop} {XC : String → State → State → Prop} {mc ms : Nat} {free : Addr → Prop} {bytes : ByteArray} {maxL : Nat} {ret : Option FieldType}
    (hM : vx_Met l y ws rm Pc Qc XC mc ms free) (hblind : FrameBlind Pc) (hrc : rm.cells = mc) (hrs : rm.slots = ms)
    (hframes : rm.frames + 1 ≤ R.frames) (hlocals : W9 + (maxL + 11) + rm.locals ≤ R.locals)
    (hws : ∀ w ∈ ws, ∀ a' U, s.WarmedH U.vm → w.before a' U = true) (hcode : Cond.code y bytes maxL ret ∈ ws) (hinit : ∀ a' U, s.WarmedH U.vm → (Cond.initialized y.cls).before a' U = true) :
    vx_Back l R p e below s sargs y len W9 (PreOf R mc ms Pc) (PostOf Qc mc ms free) (vx_Post XC mc ms free) := by
  intro m meth c A g ig mk a X hg hsize hdg hW hn hp
  have h1 : (headSpec ws rm).pre.before a A.U = true := atoms_intro fun w hw => hws w hw _ _ X.warmed
  have h2 : (Cond.code y bytes maxL ret).before a A.U = true := hws _ hcode _ _ X.warmed
  have h3 : (Cond.initialized y.cls).before a A.U = true := hinit _ _ X.warmed
  have h4 : A.cells + (headSpec ws rm).room.cells ≤ R.cells := by rw [show (headSpec ws rm).room.cells = mc from hrc]; exact hp.1
  have h5 : A.slots + (headSpec ws rm).room.slots ≤ R.slots := by rw [show (headSpec ws rm).room.slots = ms from hrs]; exact hp.2.1
  have hPc : Pc a (A.U.calling g mk a) := hblind _ _ _ _ hp.2.2
  obtain ⟨U, Ls, c0, s0⟩ := A
  dsimp only [Pt.U, Pt.locs, Pt.cells, Pt.slots] at h1 h2 h3 h4 h5 X hn hPc ⊢
  obtain ⟨methY, cY, hmY, hcY, -, hlY, -, -, -, -⟩ := Cond.code_spec hn h2
  obtain ⟨kY, hkY, -⟩ := className_of_methodNamed hn
  have hinitY : kY.init = .initialized := Cond.initialized_spec (findClass_of_methodNamed hn) hkY h3
  have h : At U g.method c below := by rw [hg]; exact X.here
  have hlocals9 : W9 + (maxL + 11) + (headSpec ws rm).room.locals ≤ R.locals := hlocals
  have happ : (headSpec ws rm).appliesLoose y e.platform (U.calling g mk a) = true :=
    Spec.appliesLoose_calling (g := g) h hdg hn hkY hinitY
      (X.room_calling (g := g) (R' := (headSpec ws rm).room) hsize hmY hcY hframes (by rw [hlY]; omega) h4 h5) h1
  obtain ⟨mid, hmid⟩ := h.above
  have hfr : (U.setTop g).frames = (.java g :: mid) ++ below := by rw [State.frames_setTop' g h.top, hmid]; rfl
  obtain ⟨o, s₂, hsteps, -, hend, hq⟩ := Steps.callFree hM p X.admits X.cas X.clock (acts := []) hfr happ hPc trivial
  have hq' : vx_Q Qc XC mc ms free a (U.calling g mk a) o s₂ := hq
  rw [State.frames_setTop' g h.top] at hend
  obtain ⟨g₀, hg0⟩ := Option.isSome_iff_exists.mp h.top
  obtain ⟨r, hr⟩ := State.topJava?_eq_some.mp hg0
  have hr' : (({ U with heap := s₂.heap, slotsUsed := s₂.slotsUsed } : State).setVm s₂.vm).frames = .java g₀ :: r := hr
  rcases hq' with ⟨hqc, L, hfe, hL⟩ | ⟨q, rfl, E, ce, L, hx, hce, hcv, hcl, hW₂, hsm, hL⟩
  · obtain ⟨⟨v, rfl⟩, hW₂, e2, q2, q3, q4, q5, q6⟩ := id hfe
    have e3 : s₂ = ({ (U.calling g mk a).setFrames s₂.frames with heap := s₂.heap, slotsUsed := s₂.slotsUsed } : State).setVm s₂.vm := by
      have : s₂ = ({ s₂ with vm := (U.calling g mk a).vm } : State).setVm s₂.vm := rfl
      rw [e2] at this
      exact this
    obtain ⟨c₂, i₂, len₂, hc₂, hd₂, hf₂⟩ := hend
    have hW' : U.WarmedH s₂.vm := hW₂
    have hcc : c₂ = c := by
      have h1 : s₂.code? g.method = U.code? g.method := by
        rw [State.code?_eq, State.code?_eq, hW'.alike.method?]
      exact Option.some.inj (hc₂.symm.trans (h1.trans h.code))
    subst hcc
    have hlen : len₂ = len := by rw [hdg] at hd₂; cases hd₂; rfl
    subst hlen
    have hs₂ : s₂ = (({ U with heap := s₂.heap, slotsUsed := s₂.slotsUsed } : State).setVm s₂.vm).setTop { g with pc := g.pc + len₂, stack := v.toList ++ g.stack } := by
      refine e3.trans ?_
      rw [hf₂, State.calling_eq h.top, State.setFrames_setFrames, State.setTop_of_frames _ hr', hr]
      rfl
    have hsame : U.sameButNew ({ U with heap := s₂.heap, slotsUsed := s₂.slotsUsed } : State) L mc ms := by
      refine ⟨?_, q2, q3, q4, q5, q6⟩
      obtain ⟨t, ht, -⟩ := State.frames_cons hr
      show ({ U with heap := s₂.heap, slotsUsed := s₂.slotsUsed } : State) = { U.setFrames U.frames with heap := s₂.heap, slotsUsed := s₂.slotsUsed }
      rw [State.setFrames_self ht]
    subst hg
    refine Or.inl ⟨v, ⟨(({ U with heap := s₂.heap, slotsUsed := s₂.slotsUsed } : State).setVm s₂.vm), Ls ++ L, c0 + mc, s0 + ms⟩,
      ⟨X.admits, X.cas, X.clock, X.frames, X.room, X.hears, X.method, X.code, (X.here.setHeapUsed s₂.heap s₂.slotsUsed).setVm hW'.alike, X.tail, State.WarmedH.trans X.warmed hW', X.limits, X.bytes, X.same.trans (hsame.setVm s.vm)⟩,
      ⟨g, mk, s₂, L, rfl, rfl, hqc, rfl, hL, rfl, rfl⟩, ?_⟩
    show Steps p.tables e below _ ((({ U with heap := s₂.heap, slotsUsed := s₂.slotsUsed } : State).setVm s₂.vm).setTop { g with pc := g.pc + len₂, stack := v.toList ++ g.stack })
    rw [← hs₂]
    exact hsteps
  · obtain ⟨e2, q2, q3, q4, q5, q6⟩ := id hsm
    have e3 : s₂ = ({ (U.calling g mk a).setFrames s₂.frames with heap := s₂.heap, slotsUsed := s₂.slotsUsed } : State).setVm s₂.vm := by
      have : s₂ = ({ s₂ with vm := (U.calling g mk a).vm } : State).setVm s₂.vm := rfl
      rw [e2] at this
      exact this
    have hf₂ : s₂.frames = .throwing q :: .java g :: U.frames.tail := hend
    have hW' : U.WarmedH s₂.vm := hW₂
    have hs₂ : s₂ = ((({ U with heap := s₂.heap, slotsUsed := s₂.slotsUsed } : State).setVm s₂.vm).setTop g).pushFrame (.throwing q) := by
      refine e3.trans ?_
      rw [hf₂, State.calling_eq h.top, State.setFrames_setFrames, State.pushFrame, State.frames_setTop _ hr', State.setTop_of_frames _ hr', State.setFrames_setFrames, hr]
      rfl
    have hsame : U.sameButNew ({ U with heap := s₂.heap, slotsUsed := s₂.slotsUsed } : State) L mc ms := by
      refine ⟨?_, q2, q3, q4, q5, q6⟩
      obtain ⟨t, ht, -⟩ := State.frames_cons hr
      show ({ U with heap := s₂.heap, slotsUsed := s₂.slotsUsed } : State) = { U.setFrames U.frames with heap := s₂.heap, slotsUsed := s₂.slotsUsed }
      rw [State.setFrames_self ht]
    subst hg
    refine Or.inr ⟨q, ⟨(({ U with heap := s₂.heap, slotsUsed := s₂.slotsUsed } : State).setVm s₂.vm), Ls ++ L, c0 + mc, s0 + ms⟩,
      ⟨X.admits, X.cas, X.clock, X.frames, X.room, X.hears, X.method, X.code, (X.here.setHeapUsed s₂.heap s₂.slotsUsed).setVm hW'.alike, X.tail, State.WarmedH.trans X.warmed hW', X.limits, X.bytes, X.same.trans (hsame.setVm s.vm)⟩,
      ⟨g, mk, s₂, L, E, ce, rfl, rfl, hx, hce, hcv, hcl, rfl, hL, rfl, rfl⟩, ?_⟩
    show Steps p.tables e below _ (((({ U with heap := s₂.heap, slotsUsed := s₂.slotsUsed } : State).setVm s₂.vm).setTop g).pushFrame (.throwing q))
    rw [← hs₂]
    exact hsteps
end Payer
section Calls
variable {p : Program} {l : Launch} {e : Env} {R : Room} {s : State} {m : MethodId} {args : Array Value} {below : List Frame} {meth : Method} {c : Code} {T : State} {locs : List Loc} {cells slots : Nat}
theorem vx_callV (X : Stand p l e R s m args below meth c T locs cells slots) (hexec : p.tables.exec = Jvm.exec) {own C : String} {index : Nat} {y : MethodName} {bytes : ByteArray} {maxL : Nat} {ret : Option FieldType}
    (hown : s.vm.findClass own = some m.cls) (hlink : (Cond.methodLink own index y).before args s = true) (hinst : (Cond.instanceMethod y).before args s = true) (hsel : (Cond.selects C y y).before args s = true)
    (hcode : (Cond.code y bytes maxL ret).before args s = true) (hy : y.cls ≠ "java/lang/invoke/MethodHandle" ∧ y.cls ≠ "java/lang/invoke/VarHandle")
    {W9 : Nat} {Pre : Pt → Array Value → Prop} {Post : Pt → Array Value → Option Value → Pt → Prop} {PostX : Pt → Array Value → Addr → Pt → Prop} (hK : vx_Back l R p e below s args y 3 W9 Pre Post PostX)
    {b : Addr} {cellB : Cell} (hcell : T.heap[b]? = some cellB) (hobj : cellB.vm.isStatics = false) (hcls : s.vm.findClass C = some cellB.cls)
    {g : JFrame} (hg : g.method = m) (hsize : g.locals.size = c.maxLocals) {argsL rest : List Value} (hlen : ∀ sig, parseMethodDescriptor y.desc = some sig → argsL.length = sig.parameters.length)
    (hstack : g.stack = argsL.reverse ++ .ref b :: rest) (hW : 2 * g.monitorRoom + (rest.map fun v => v.category).sum ≤ W9) (hdg : decode c.code g.pc = .ok (.invokevirtual index, 3))
    (hpre : ∀ vm₁, s.WarmedH vm₁ → Pre ⟨T.setVm vm₁, locs, cells, slots⟩ (Value.ref b :: argsL).toArray) :
    (∃ (v : Option Value) (vm₁ : Vm) (B : Pt), s.WarmedH vm₁ ∧ Stand p l e R s m args below meth c B.U B.locs B.cells B.slots ∧ Post ⟨T.setVm vm₁, locs, cells, slots⟩ (Value.ref b :: argsL).toArray v B ∧
      ∀ target, Steps p.tables e below (B.U.setTop { g with pc := g.pc + 3, stack := v.toList ++ rest }) target → Steps p.tables e below (T.setTop g) target) ∨
    (∃ (q : Addr) (vm₁ : Vm) (B : Pt), s.WarmedH vm₁ ∧ Stand p l e R s m args below meth c B.U B.locs B.cells B.slots ∧ PostX ⟨T.setVm vm₁, locs, cells, slots⟩ (Value.ref b :: argsL).toArray q B ∧
      Steps p.tables e below (T.setTop g) ((B.U.setTop { g with stack := rest }).pushFrame (.throwing q))) := by
  obtain ⟨mk, methM, hnamed, hmethM, hstM, habM⟩ := Cond.instanceMethod_spec hinst
  obtain ⟨methM', cM, hmethM', -, -, -, -, -, -, hsigM⟩ := Cond.code_spec hnamed hcode
  cases hmethM.symm.trans hmethM'
  obtain ⟨c2, r2, m2, q1, q2, q3, q4, kP, hkP, hkPi⟩ := Cond.selects_spec hsel
  cases hcls.symm.trans q1
  cases (State.methodFound?_of_named hnamed hy).symm.trans q2
  cases hnamed.symm.trans q3
  have hselP : selectMethod e.platform s.vm cellB.cls mk = .method mk := by rw [Launch.admits_selectMethod X.admits]; exact q4
  obtain ⟨vm₁, X₁, hstep₁⟩ := X.invokevirtual hexec hown hlink hnamed hmethM hstM hkP hkPi hy (a := b) (cell := cellB) hcell
    (fun z h => by rw [h] at hobj; cases hobj) hselP hmethM habM hkP hkPi (g := g) hg (argsL := argsL) (rest := rest) (hlen _ hsigM) hstack hdg
  rcases hK m meth c ⟨T.setVm vm₁, locs, cells, slots⟩ { g with stack := rest } (.invokevirtual index) mk (Value.ref b :: argsL).toArray X₁ hg hsize hdg hW (X₁.named hnamed) (hpre vm₁ X₁.warmed) with ⟨v, B, X', hpost, hsteps⟩ | ⟨q, B, X', hpost, hsteps⟩
  · exact Or.inl ⟨v, vm₁, B, X₁.warmed, X', hpost, fun target h => hstep₁ _ fun acts => by rw [doInvoke_state]; exact hsteps.trans h⟩
  · exact Or.inr ⟨q, vm₁, B, X₁.warmed, X', hpost, hstep₁ _ fun acts => by rw [doInvoke_state]; exact hsteps⟩
theorem vx_callS (X : Stand p l e R s m args below meth c T locs cells slots) (hexec : p.tables.exec = Jvm.exec) {own : String} {index : Nat} {y : MethodName} {bytes : ByteArray} {maxL : Nat} {ret : Option FieldType}
    (hown : s.vm.findClass own = some m.cls) (hlink : (Cond.methodLink own index y).before args s = true) (hstat : (Cond.static y).before args s = true) (hinit : (Cond.initialized y.cls).before args s = true)
    (hcode : (Cond.code y bytes maxL ret).before args s = true) (hy : y.cls ≠ "java/lang/invoke/MethodHandle" ∧ y.cls ≠ "java/lang/invoke/VarHandle")
    {W9 : Nat} {Pre : Pt → Array Value → Prop} {Post : Pt → Array Value → Option Value → Pt → Prop} {PostX : Pt → Array Value → Addr → Pt → Prop} (hK : vx_Back l R p e below s args y 3 W9 Pre Post PostX)
    {g : JFrame} (hg : g.method = m) (hsize : g.locals.size = c.maxLocals) {argsL rest : List Value} (hlen : ∀ sig, parseMethodDescriptor y.desc = some sig → argsL.length = sig.parameters.length)
    (hstack : g.stack = argsL.reverse ++ rest) (hW : 2 * g.monitorRoom + (rest.map fun v => v.category).sum ≤ W9) (hdg : decode c.code g.pc = .ok (.invokestatic index, 3))
    (hpre : ∀ vm₁, s.WarmedH vm₁ → Pre ⟨T.setVm vm₁, locs, cells, slots⟩ argsL.toArray) :
    (∃ (v : Option Value) (vm₁ : Vm) (B : Pt), s.WarmedH vm₁ ∧ Stand p l e R s m args below meth c B.U B.locs B.cells B.slots ∧ Post ⟨T.setVm vm₁, locs, cells, slots⟩ argsL.toArray v B ∧
      ∀ target, Steps p.tables e below (B.U.setTop { g with pc := g.pc + 3, stack := v.toList ++ rest }) target → Steps p.tables e below (T.setTop g) target) ∨
    (∃ (q : Addr) (vm₁ : Vm) (B : Pt), s.WarmedH vm₁ ∧ Stand p l e R s m args below meth c B.U B.locs B.cells B.slots ∧ PostX ⟨T.setVm vm₁, locs, cells, slots⟩ argsL.toArray q B ∧
      Steps p.tables e below (T.setTop g) ((B.U.setTop { g with stack := rest }).pushFrame (.throwing q))) := by
  obtain ⟨mk, hnamed⟩ := Cond.code_named hcode
  obtain ⟨methM, cM, hmethM, -, -, -, -, -, -, hsigM⟩ := Cond.code_spec hnamed hcode
  have hstatic : methM.isStatic = true := Cond.static_spec hnamed hmethM hstat
  obtain ⟨kP, hkP, -⟩ := className_of_methodNamed hnamed
  have hinitP : kP.init = .initialized := Cond.initialized_spec (findClass_of_methodNamed hnamed) hkP hinit
  obtain ⟨vm₁, X₁, hstep₁⟩ := X.invokestatic hexec hown hlink hnamed hmethM hstatic hkP hinitP hy (g := g) hg (argsL := argsL) (rest := rest) (hlen _ hsigM) hstack hdg
  rcases hK m meth c ⟨T.setVm vm₁, locs, cells, slots⟩ { g with stack := rest } (.invokestatic index) mk argsL.toArray X₁ hg hsize hdg hW (X₁.named hnamed) (hpre vm₁ X₁.warmed) with ⟨v, B, X', hpost, hsteps⟩ | ⟨q, B, X', hpost, hsteps⟩
  · exact Or.inl ⟨v, vm₁, B, X₁.warmed, X', hpost, fun target h => hstep₁ _ fun acts => by rw [doInvoke_state]; exact hsteps.trans h⟩
  · exact Or.inr ⟨q, vm₁, B, X₁.warmed, X', hpost, hstep₁ _ fun acts => by rw [doInvoke_state]; exact hsteps⟩
end Calls
theorem vx_cls {s : State} {T : State} {vm₁ : Vm} {E : String} {k : ClassId} (hW : s.WarmedH vm₁) (h : (T.setVm vm₁).vm.findClass E = some k) : s.vm.findClass E = some k := by
  have h1 : vm₁.findClass E = some k := h
  rw [hW.alike.findClass] at h1
  exact h1
/-- the method's frame g, with q thrown over it -/
def vx_W (p : Program) (l : Launch) (e : Env) (R : Room) (s : State) (m : MethodId) (args : Array Value) (below : List Frame) (meth : Method) (c : Code) (H : Heap) (locs : List Loc) (cells slots : Nat) (Q : State → Prop) (g : JFrame) (q : Addr) : Prop :=
  ∀ T : State, T.heap = H → Stand p l e R s m args below meth c T locs cells slots → ∃ t, Steps p.tables e below ((T.setTop g).pushFrame (.throwing q)) t ∧ Q t
def vx_Run (p : Program) (l : Launch) (e : Env) (R : Room) (s : State) (m : MethodId) (args : Array Value) (below : List Frame) (meth : Method) (c : Code) (H : Heap) (locs : List Loc) (cells slots mc ms : Nat) (g : JFrame) (rest : List Value) (Qa : State → Outcome → State → Prop) (XC : String → State → State → Prop) (free : Addr → Prop) : Prop :=
  ∀ T : State, T.heap = H → Stand p l e R s m args below meth c T locs cells slots →
    (∃ (v : Option Value) (st₀ t T' : State) (L : List Loc), st₀.heap = H ∧ Stand p l e R s m args below meth c T' (locs ++ L) (cells + mc) (slots + ms) ∧ (∀ q ∈ L, free q.base) ∧ T'.heap = t.heap ∧ T'.vm = t.vm ∧ Qa st₀ (.returned v) t ∧
      Goes p e below T g T' { g with pc := g.pc + 3, stack := v.toList ++ rest }) ∨
    (∃ (q : Addr) (st₀ t T' : State) (L : List Loc) (E : String) (ce : Cell), st₀.heap = H ∧ Stand p l e R s m args below meth c T' (locs ++ L) (cells + mc) (slots + ms) ∧ (∀ z ∈ L, free z.base) ∧ T'.heap = t.heap ∧ T'.vm = t.vm ∧ XC E st₀ t ∧ t.heap[q]? = some ce ∧ ce.vm = .none ∧ s.vm.findClass E = some ce.cls ∧
      Steps p.tables e below (T.setTop g) ((T'.setTop { g with stack := rest }).pushFrame (.throwing q)))
def vx_X {S : Type} (px : S → Prop) (B : String → S → State → Prop) (A : Nat → Prop) : String → State → State → Prop := fun E st t => ∃ u : S, px u ∧ B E u t ∧ va_F A st t
section Runs
variable {p : Program} {l : Launch} {e : Env} {R : Room} {s : State} {m : MethodId} {args : Array Value} {below : List Frame} {meth : Method} {c : Code} {H : Heap} {locs : List Loc} {cells slots : Nat}
variable {y : MethodName} {bytes cc : ByteArray} {maxL nL mc ms n index : Nat} {ret : Option FieldType} {ws : List Cond} {rm : Room} {Pc : Array Value → State → Prop} {Qc : Array Value → State → Outcome → State → Prop} {XC : String → State → State → Prop} {free : Addr → Prop} {Ts : List Cond} {own C : String} {b : Addr} {As rest : List Value} {g : JFrame}
theorem vx_callBack (cb : CallB R s args own index y bytes maxL ret ws rm mc ms n) (hM : vx_Met l y ws rm Pc Qc XC mc ms free) (hbl : FrameBlind Pc) : vx_Back l R p e below s args y 3 8 (PreOf R mc ms Pc) (PostOf Qc mc ms free) (vx_Post XC mc ms free) := by
  obtain ⟨hrc, hrs, hfr, hlo, hws, hcw, -, hini, -⟩ := cb
  exact vx_back (bytes := bytes) (maxL := maxL) (ret := ret) hM hbl hrc hrs hfr hlo hws hcw (fun a' U hW => word_at hW (Or.inl (by first | rfl | simp [Cond.onTables, Cond.keeps, Cond.steady])) hini)
theorem vx_runV (S : CallFix p m c cc nL s args Ts own) (hM : vx_Met l y ws rm Pc Qc XC mc ms free) (cw : CallW R s args own C index y bytes maxL ret ws rm mc ms n) (hp : PreV s H C b Pc As)
    (hg : g.method = m) (hn : As.length = n) (hsize : g.locals.size = nL) (hstack : g.stack = As.reverse ++ .ref b :: rest) (hW : 2 * g.monitorRoom + (rest.map fun v => v.category).sum ≤ 8) (hdg : decode cc g.pc = .ok (.invokevirtual index, 3)) (hf : cells + mc ≤ R.cells ∧ slots + ms ≤ R.slots) :
    vx_Run p l e R s m args below meth c H locs cells slots mc ms g rest (Qc (Value.ref b :: As).toArray) XC free := by
  have hK : vx_Back l R p e below s args y 3 8 (PreOf R mc ms Pc) (PostOf Qc mc ms free) (vx_Post XC mc ms free) := vx_callBack cw.1 hM hp.1
  obtain ⟨⟨-, -, -, -, -, -, hcode, -, hy, hlen, hl⟩, hin, hse⟩ := cw
  obtain ⟨hx, hb, hml, ho, -⟩ := S
  obtain ⟨-, ⟨cellB, hcB, hoB, hclB⟩, hPc⟩ := hp
  intro T hT X
  rcases vx_callV X hx (C := C) (bytes := bytes) (maxL := maxL) (ret := ret) ho hl hin hse hcode hy hK (by rw [hT]; exact hcB) hoB hclB hg (hsize.trans hml.symm) (argsL := As) (rest := rest) (fun sig h => hn.trans (hlen sig h)) hstack hW (by rw [hb]; exact hdg)
    (fun vm₁ hW₁ => ⟨hf.1, hf.2, hPc (T.setVm vm₁) hT hW₁⟩) with ⟨v, vm₁, ⟨U', l2, c2, s2⟩, hW₁, X', ⟨g', mk, t, L, e1, e2, hq, h1, hL, h2, h3⟩, st⟩ | ⟨q, vm₁, ⟨U', l2, c2, s2⟩, hW₁, X', ⟨g', mk, t, L, E, ce, e1, e2, hq, hce, hcv, hcl, h1, hL, h2, h3⟩, st⟩
  · dsimp only [Pt.U, Pt.locs, Pt.cells, Pt.slots] at X' e1 e2 h1 h2 h3 st
    subst h1; subst h2; subst h3
    exact Or.inl ⟨v, (T.setVm vm₁).calling g' mk (Value.ref b :: As).toArray, t, U', L, hT, X', hL, e1, e2, hq, st⟩
  · dsimp only [Pt.U, Pt.locs, Pt.cells, Pt.slots] at X' e1 e2 h1 h2 h3 st hcl
    subst h1; subst h2; subst h3
    exact Or.inr ⟨q, (T.setVm vm₁).calling g' mk (Value.ref b :: As).toArray, t, U', L, E, ce, hT, X', hL, e1, e2, hq, hce, hcv, vx_cls hW₁ hcl, st⟩
theorem vx_runS (S : CallFix p m c cc nL s args Ts own) (hM : vx_Met l y ws rm Pc Qc XC mc ms free) (cw : CallB R s args own index y bytes maxL ret ws rm mc ms n ∧ (Cond.static y).before args s = true) (hp : PreS s H Pc As)
    (hg : g.method = m) (hn : As.length = n) (hsize : g.locals.size = nL) (hstack : g.stack = As.reverse ++ rest) (hW : 2 * g.monitorRoom + (rest.map fun v => v.category).sum ≤ 8) (hdg : decode cc g.pc = .ok (.invokestatic index, 3)) (hf : cells + mc ≤ R.cells ∧ slots + ms ≤ R.slots) :
    vx_Run p l e R s m args below meth c H locs cells slots mc ms g rest (Qc As.toArray) XC free := by
  have hK : vx_Back l R p e below s args y 3 8 (PreOf R mc ms Pc) (PostOf Qc mc ms free) (vx_Post XC mc ms free) := vx_callBack cw.1 hM hp.1
  obtain ⟨⟨-, -, -, -, -, -, hcode, hini, hy, hlen, hl⟩, hstt⟩ := cw
  obtain ⟨hx, hb, hml, ho, -⟩ := S
  intro T hT X
  rcases vx_callS X hx (bytes := bytes) (maxL := maxL) (ret := ret) ho hl hstt hini hcode hy hK hg (hsize.trans hml.symm) (argsL := As) (rest := rest) (fun sig h => hn.trans (hlen sig h)) hstack hW (by rw [hb]; exact hdg)
    (fun vm₁ hW₁ => ⟨hf.1, hf.2, hp.2 (T.setVm vm₁) hT hW₁⟩) with ⟨v, vm₁, ⟨U', l2, c2, s2⟩, hW₁, X', ⟨g', mk, t, L, e1, e2, hq, h1, hL, h2, h3⟩, st⟩ | ⟨q, vm₁, ⟨U', l2, c2, s2⟩, hW₁, X', ⟨g', mk, t, L, E, ce, e1, e2, hq, hce, hcv, hcl, h1, hL, h2, h3⟩, st⟩
  · dsimp only [Pt.U, Pt.locs, Pt.cells, Pt.slots] at X' e1 e2 h1 h2 h3 st
    subst h1; subst h2; subst h3
    exact Or.inl ⟨v, (T.setVm vm₁).calling g' mk As.toArray, t, U', L, hT, X', hL, e1, e2, hq, st⟩
  · dsimp only [Pt.U, Pt.locs, Pt.cells, Pt.slots] at X' e1 e2 h1 h2 h3 st hcl
    subst h1; subst h2; subst h3
    exact Or.inr ⟨q, (T.setVm vm₁).calling g' mk As.toArray, t, U', L, E, ce, hT, X', hL, e1, e2, hq, hce, hcv, vx_cls hW₁ hcl, st⟩
end Runs
section Rows
variable {p : Program} {l : Launch} {e : Env} {R : Room} {s : State} {m : MethodId} {args : Array Value} {below : List Frame} {meth : Method} {c : Code} {H : Heap} {locs : List Loc} {cells slots : Nat} {Q : State → Prop}
variable {mc ms : Nat} {free : Addr → Prop} {A0 A1 : Nat → Prop} {H0 : Heap} {a : Array Value} {pc : Nat} {ls : Array Slot} {st0 rest : List Value}
theorem vx_keep {st₀ t T' : State} {L : List Loc} (h0 : st₀.heap = H) (e1 : T'.heap = t.heap) (hS : va_S A0 H0 H locs) (hA : ∀ q, q < H.size → A1 q → A0 q) (hf : ∀ q, free q → A0 q) (hL : ∀ q ∈ L, free q.base) (hF : va_F A1 st₀ t) :
    H.size ≤ T'.heap.size ∧ (∀ q : Nat, q < H.size → ¬ A1 q → T'.heap[q]? = H[q]?) ∧ va_S A0 H0 T'.heap (locs ++ L) := by
  obtain ⟨hz, hk⟩ := hF
  rw [h0] at hz hk
  exact ⟨by rw [e1]; exact hz, fun q h1 h2 => by rw [e1]; exact hk q h1 h2,
    ⟨Nat.le_trans hS.1 (by rw [e1]; exact hz), fun q h1 h2 => by rw [e1, hk q (Nat.lt_of_lt_of_le h1 hS.1) (fun z => h2 (hA q (Nat.lt_of_lt_of_le h1 hS.1) z))]; exact hS.2.1 q h1 h2, fun q hq => by
      rcases List.mem_append.mp hq with h | h
      · exact hS.2.2 q h
      · exact hf _ (hL q h)⟩⟩
theorem vx_calli {S SX : Type} {post : Int32 → S → Prop} {px : SX → Prop} {B : S → State → Prop} {BX : String → SX → State → Prop} {AX : Nat → Prop} (hr : vx_Run p l e R s m args below meth c H locs cells slots mc ms (F0 m pc ls st0) rest (va_Qi post B A1 a) (vx_X px BX AX) free) (hS : va_S A0 H0 H locs) (hA : ∀ q, q < H.size → A1 q → A0 q) (hf : ∀ q, free q → A0 q) (hAX : ∀ q, q < H.size → AX q → A0 q)
    (kx : ∀ (E : String) (ce : Cell) (q9 : Addr) (u : SX) (t : State) (H1 : Heap) (locs1 : List Loc), t.heap = H1 → s.vm.Alike t.vm → px u → BX E u t → H.size ≤ H1.size → (∀ q : Nat, q < H.size → ¬ AX q → H1[q]? = H[q]?) → va_S A0 H0 H1 locs1 → H1[q9]? = some ce → ce.vm = .none → s.vm.findClass E = some ce.cls → vx_W p l e R s m args below meth c H1 locs1 (cells + mc) (slots + ms) Q (F0 m pc ls rest) q9)
    (kk : ∀ (r : Int32) (u : S) (t : State) (H1 : Heap) (locs1 : List Loc), t.heap = H1 → s.vm.Alike t.vm → post r u → B u t → H.size ≤ H1.size → (∀ q : Nat, q < H.size → ¬ A1 q → H1[q]? = H[q]?) → va_S A0 H0 H1 locs1 → W p l e R s m args below meth c H1 locs1 (cells + mc) (slots + ms) Q (F0 m (pc + 3) ls (.int r :: rest))) : W p l e R s m args below meth c H locs cells slots Q (F0 m pc ls st0) := by
  intro T hT X
  rcases hr T hT X with ⟨v, st₀, t, T', L, h0, X', hL, e1, e2, ⟨⟨r, u, hv, hp, hb⟩, hF⟩, st⟩ | ⟨q, st₀, t, T', L, E, ce, h0, X', hL, e1, e2, ⟨u, hp, hb, hF⟩, hce, hcv, hcl, st⟩
  · cases hv
    obtain ⟨k1, k2, k3⟩ := vx_keep h0 e1 hS hA hf hL hF
    obtain ⟨t2, a1, b1⟩ := kk r u t T'.heap (locs ++ L) e1.symm (by rw [← e2]; exact X'.warmed.alike) hp hb k1 k2 k3 T' rfl X'
    exact ⟨t2, st t2 a1, b1⟩
  · obtain ⟨k1, k2, k3⟩ := vx_keep h0 e1 hS hAX hf hL hF
    obtain ⟨t2, a1, b1⟩ := kx E ce q u t T'.heap (locs ++ L) e1.symm (by rw [← e2]; exact X'.warmed.alike) hp hb k1 k2 k3 (by rw [e1]; exact hce) hcv hcl T' rfl X'
    exact ⟨t2, st.trans a1, b1⟩
theorem vx_calll {S SX : Type} {post : Int64 → S → Prop} {px : SX → Prop} {B : S → State → Prop} {BX : String → SX → State → Prop} {AX : Nat → Prop} (hr : vx_Run p l e R s m args below meth c H locs cells slots mc ms (F0 m pc ls st0) rest (va_Ql post B A1 a) (vx_X px BX AX) free) (hS : va_S A0 H0 H locs) (hA : ∀ q, q < H.size → A1 q → A0 q) (hf : ∀ q, free q → A0 q) (hAX : ∀ q, q < H.size → AX q → A0 q)
    (kx : ∀ (E : String) (ce : Cell) (q9 : Addr) (u : SX) (t : State) (H1 : Heap) (locs1 : List Loc), t.heap = H1 → s.vm.Alike t.vm → px u → BX E u t → H.size ≤ H1.size → (∀ q : Nat, q < H.size → ¬ AX q → H1[q]? = H[q]?) → va_S A0 H0 H1 locs1 → H1[q9]? = some ce → ce.vm = .none → s.vm.findClass E = some ce.cls → vx_W p l e R s m args below meth c H1 locs1 (cells + mc) (slots + ms) Q (F0 m pc ls rest) q9)
    (kk : ∀ (r : Int64) (u : S) (t : State) (H1 : Heap) (locs1 : List Loc), t.heap = H1 → s.vm.Alike t.vm → post r u → B u t → H.size ≤ H1.size → (∀ q : Nat, q < H.size → ¬ A1 q → H1[q]? = H[q]?) → va_S A0 H0 H1 locs1 → W p l e R s m args below meth c H1 locs1 (cells + mc) (slots + ms) Q (F0 m (pc + 3) ls (.long r :: rest))) : W p l e R s m args below meth c H locs cells slots Q (F0 m pc ls st0) := by
  intro T hT X
  rcases hr T hT X with ⟨v, st₀, t, T', L, h0, X', hL, e1, e2, ⟨⟨r, u, hv, hp, hb⟩, hF⟩, st⟩ | ⟨q, st₀, t, T', L, E, ce, h0, X', hL, e1, e2, ⟨u, hp, hb, hF⟩, hce, hcv, hcl, st⟩
  · cases hv
    obtain ⟨k1, k2, k3⟩ := vx_keep h0 e1 hS hA hf hL hF
    obtain ⟨t2, a1, b1⟩ := kk r u t T'.heap (locs ++ L) e1.symm (by rw [← e2]; exact X'.warmed.alike) hp hb k1 k2 k3 T' rfl X'
    exact ⟨t2, st t2 a1, b1⟩
  · obtain ⟨k1, k2, k3⟩ := vx_keep h0 e1 hS hAX hf hL hF
    obtain ⟨t2, a1, b1⟩ := kx E ce q u t T'.heap (locs ++ L) e1.symm (by rw [← e2]; exact X'.warmed.alike) hp hb k1 k2 k3 (by rw [e1]; exact hce) hcv hcl T' rfl X'
    exact ⟨t2, st.trans a1, b1⟩
theorem vx_callf {S SX : Type} {post : UInt32 → S → Prop} {px : SX → Prop} {B : S → State → Prop} {BX : String → SX → State → Prop} {AX : Nat → Prop} (hr : vx_Run p l e R s m args below meth c H locs cells slots mc ms (F0 m pc ls st0) rest (va_Qf post B A1 a) (vx_X px BX AX) free) (hS : va_S A0 H0 H locs) (hA : ∀ q, q < H.size → A1 q → A0 q) (hf : ∀ q, free q → A0 q) (hAX : ∀ q, q < H.size → AX q → A0 q)
    (kx : ∀ (E : String) (ce : Cell) (q9 : Addr) (u : SX) (t : State) (H1 : Heap) (locs1 : List Loc), t.heap = H1 → s.vm.Alike t.vm → px u → BX E u t → H.size ≤ H1.size → (∀ q : Nat, q < H.size → ¬ AX q → H1[q]? = H[q]?) → va_S A0 H0 H1 locs1 → H1[q9]? = some ce → ce.vm = .none → s.vm.findClass E = some ce.cls → vx_W p l e R s m args below meth c H1 locs1 (cells + mc) (slots + ms) Q (F0 m pc ls rest) q9)
    (kk : ∀ (r : UInt32) (u : S) (t : State) (H1 : Heap) (locs1 : List Loc), t.heap = H1 → s.vm.Alike t.vm → post r u → B u t → H.size ≤ H1.size → (∀ q : Nat, q < H.size → ¬ A1 q → H1[q]? = H[q]?) → va_S A0 H0 H1 locs1 → W p l e R s m args below meth c H1 locs1 (cells + mc) (slots + ms) Q (F0 m (pc + 3) ls (.float r :: rest))) : W p l e R s m args below meth c H locs cells slots Q (F0 m pc ls st0) := by
  intro T hT X
  rcases hr T hT X with ⟨v, st₀, t, T', L, h0, X', hL, e1, e2, ⟨⟨r, u, hv, hp, hb⟩, hF⟩, st⟩ | ⟨q, st₀, t, T', L, E, ce, h0, X', hL, e1, e2, ⟨u, hp, hb, hF⟩, hce, hcv, hcl, st⟩
  · cases hv
    obtain ⟨k1, k2, k3⟩ := vx_keep h0 e1 hS hA hf hL hF
    obtain ⟨t2, a1, b1⟩ := kk r u t T'.heap (locs ++ L) e1.symm (by rw [← e2]; exact X'.warmed.alike) hp hb k1 k2 k3 T' rfl X'
    exact ⟨t2, st t2 a1, b1⟩
  · obtain ⟨k1, k2, k3⟩ := vx_keep h0 e1 hS hAX hf hL hF
    obtain ⟨t2, a1, b1⟩ := kx E ce q u t T'.heap (locs ++ L) e1.symm (by rw [← e2]; exact X'.warmed.alike) hp hb k1 k2 k3 (by rw [e1]; exact hce) hcv hcl T' rfl X'
    exact ⟨t2, st.trans a1, b1⟩
theorem vx_calld {S SX : Type} {post : UInt64 → S → Prop} {px : SX → Prop} {B : S → State → Prop} {BX : String → SX → State → Prop} {AX : Nat → Prop} (hr : vx_Run p l e R s m args below meth c H locs cells slots mc ms (F0 m pc ls st0) rest (va_Qd post B A1 a) (vx_X px BX AX) free) (hS : va_S A0 H0 H locs) (hA : ∀ q, q < H.size → A1 q → A0 q) (hf : ∀ q, free q → A0 q) (hAX : ∀ q, q < H.size → AX q → A0 q)
    (kx : ∀ (E : String) (ce : Cell) (q9 : Addr) (u : SX) (t : State) (H1 : Heap) (locs1 : List Loc), t.heap = H1 → s.vm.Alike t.vm → px u → BX E u t → H.size ≤ H1.size → (∀ q : Nat, q < H.size → ¬ AX q → H1[q]? = H[q]?) → va_S A0 H0 H1 locs1 → H1[q9]? = some ce → ce.vm = .none → s.vm.findClass E = some ce.cls → vx_W p l e R s m args below meth c H1 locs1 (cells + mc) (slots + ms) Q (F0 m pc ls rest) q9)
    (kk : ∀ (r : UInt64) (u : S) (t : State) (H1 : Heap) (locs1 : List Loc), t.heap = H1 → s.vm.Alike t.vm → post r u → B u t → H.size ≤ H1.size → (∀ q : Nat, q < H.size → ¬ A1 q → H1[q]? = H[q]?) → va_S A0 H0 H1 locs1 → W p l e R s m args below meth c H1 locs1 (cells + mc) (slots + ms) Q (F0 m (pc + 3) ls (.double r :: rest))) : W p l e R s m args below meth c H locs cells slots Q (F0 m pc ls st0) := by
  intro T hT X
  rcases hr T hT X with ⟨v, st₀, t, T', L, h0, X', hL, e1, e2, ⟨⟨r, u, hv, hp, hb⟩, hF⟩, st⟩ | ⟨q, st₀, t, T', L, E, ce, h0, X', hL, e1, e2, ⟨u, hp, hb, hF⟩, hce, hcv, hcl, st⟩
  · cases hv
    obtain ⟨k1, k2, k3⟩ := vx_keep h0 e1 hS hA hf hL hF
    obtain ⟨t2, a1, b1⟩ := kk r u t T'.heap (locs ++ L) e1.symm (by rw [← e2]; exact X'.warmed.alike) hp hb k1 k2 k3 T' rfl X'
    exact ⟨t2, st t2 a1, b1⟩
  · obtain ⟨k1, k2, k3⟩ := vx_keep h0 e1 hS hAX hf hL hF
    obtain ⟨t2, a1, b1⟩ := kx E ce q u t T'.heap (locs ++ L) e1.symm (by rw [← e2]; exact X'.warmed.alike) hp hb k1 k2 k3 (by rw [e1]; exact hce) hcv hcl T' rfl X'
    exact ⟨t2, st.trans a1, b1⟩
theorem vx_callv {S SX : Type} {post : S → Prop} {px : SX → Prop} {B : S → State → Prop} {BX : String → SX → State → Prop} {AX : Nat → Prop} (hr : vx_Run p l e R s m args below meth c H locs cells slots mc ms (F0 m pc ls st0) rest (va_Qv post B A1 a) (vx_X px BX AX) free) (hS : va_S A0 H0 H locs) (hA : ∀ q, q < H.size → A1 q → A0 q) (hf : ∀ q, free q → A0 q) (hAX : ∀ q, q < H.size → AX q → A0 q)
    (kx : ∀ (E : String) (ce : Cell) (q9 : Addr) (u : SX) (t : State) (H1 : Heap) (locs1 : List Loc), t.heap = H1 → s.vm.Alike t.vm → px u → BX E u t → H.size ≤ H1.size → (∀ q : Nat, q < H.size → ¬ AX q → H1[q]? = H[q]?) → va_S A0 H0 H1 locs1 → H1[q9]? = some ce → ce.vm = .none → s.vm.findClass E = some ce.cls → vx_W p l e R s m args below meth c H1 locs1 (cells + mc) (slots + ms) Q (F0 m pc ls rest) q9)
    (kk : ∀ (u : S) (t : State) (H1 : Heap) (locs1 : List Loc), t.heap = H1 → s.vm.Alike t.vm → post u → B u t → H.size ≤ H1.size → (∀ q : Nat, q < H.size → ¬ A1 q → H1[q]? = H[q]?) → va_S A0 H0 H1 locs1 → W p l e R s m args below meth c H1 locs1 (cells + mc) (slots + ms) Q (F0 m (pc + 3) ls (rest))) : W p l e R s m args below meth c H locs cells slots Q (F0 m pc ls st0) := by
  intro T hT X
  rcases hr T hT X with ⟨v, st₀, t, T', L, h0, X', hL, e1, e2, ⟨⟨u, hv, hp, hb⟩, hF⟩, st⟩ | ⟨q, st₀, t, T', L, E, ce, h0, X', hL, e1, e2, ⟨u, hp, hb, hF⟩, hce, hcv, hcl, st⟩
  · cases hv
    obtain ⟨k1, k2, k3⟩ := vx_keep h0 e1 hS hA hf hL hF
    obtain ⟨t2, a1, b1⟩ := kk u t T'.heap (locs ++ L) e1.symm (by rw [← e2]; exact X'.warmed.alike) hp hb k1 k2 k3 T' rfl X'
    exact ⟨t2, st t2 a1, b1⟩
  · obtain ⟨k1, k2, k3⟩ := vx_keep h0 e1 hS hAX hf hL hF
    obtain ⟨t2, a1, b1⟩ := kx E ce q u t T'.heap (locs ++ L) e1.symm (by rw [← e2]; exact X'.warmed.alike) hp hb k1 k2 k3 (by rw [e1]; exact hce) hcv hcl T' rfl X'
    exact ⟨t2, st.trans a1, b1⟩
/-- caught by the row x of this method's table; the rows ahead don't take it -/
theorem vx_catch {own name : String} {E : String} {ce : Cell} {q : Addr} (hown : s.vm.findClass own = some m.cls) (pre : List ExceptionTableEntry) (x : ExceptionTableEntry) (suf : List ExceptionTableEntry) (hsplit : c.exceptionTable.toList = pre ++ x :: suf)
    (hpass : ∀ z ∈ pre, covers z pc = false ∨ (z.catchType ≠ 0 ∧ ∃ nm : String, (Cond.classLink own z.catchType nm).before args s = true ∧ va_Nc E nm s)) (hx : covers x pc = true) (h0 : x.catchType ≠ 0)
    (hlink : (Cond.classLink own x.catchType name).before args s = true) (hcast : (Cond.castable E name).before args s = true) (hcell : H[q]? = some ce) (hv : ce.vm = .none) (hcl : s.vm.findClass E = some ce.cls)
    (kk : W p l e R s m args below meth c H locs cells slots Q (F0 m x.handlerPc ls [.ref q])) : vx_W p l e R s m args below meth c H locs cells slots Q (F0 m pc ls rest) q := by
  intro T hT X
  have hpl : e.platform.magicAccessors = ({} : Platform).magicAccessors := by rw [X.admits.platform]
  obtain ⟨c3, c4, hc3, hc4, hasg⟩ := Cond.castable_spec hcast
  cases Option.some.inj (hc3.symm.trans hcl)
  obtain ⟨c5, hc5, hcl5⟩ := Cond.classLink_spec hown hlink e.platform hpl
  cases Option.some.inj (hc4.symm.trans hc5)
  obtain ⟨vm', X', st⟩ := X.thenCaughtThrough q (g := F0 m pc ls rest) rfl (Steps.refl _) (by rw [hT]; exact hcell) (by rw [hv]; rfl) (by obtain ⟨k9, h9, -⟩ := Vm.findClass_spec hcl; exact ⟨k9, h9⟩) pre x suf hsplit
    (fun z hz => by
      rcases hpass z hz with h | ⟨hz0, nm, hl1, hn1⟩
      · exact Or.inl h
      · obtain ⟨c6, hc6, hcl6⟩ := Cond.classLink_spec hown hl1 e.platform hpl
        obtain ⟨a8, b8, h1, h2, h3⟩ := hn1
        cases Option.some.inj (h1.symm.trans hcl)
        cases Option.some.inj (h2.symm.trans hc6)
        exact Or.inr ⟨hz0, _, hcl6, h3⟩) hx (Or.inr ⟨h0, c4, hcl5, hasg⟩)
  obtain ⟨t, a1, b1⟩ := kk (T.setVm vm') hT X'
  exact ⟨t, st.trans a1, b1⟩
end Rows
section Ends
variable {p : Program} {l : Launch} {e : Env} {R : Room} {s : State} {m : MethodId} {args : Array Value} {below : List Frame} {meth : Method} {c : Code} {H : Heap} {locs : List Loc} {cells slots : Nat} {Q : State → Prop}
variable {mc ms : Nat} {free : Addr → Prop} {A0 A1 : Nat → Prop} {H0 : Heap} {a : Array Value} {ls : Array Slot} {st0 rest : List Value}
variable {Qc : Array Value → State → Outcome → State → Prop} {XC : String → State → State → Prop}
/-- what a body that may throw owes at its end -/
def vx_MQ (below : List Frame) (Qc : Array Value → State → Outcome → State → Prop) (XC : String → State → State → Prop) (a : Array Value) (s : State) (mc ms : Nat) (free : Addr → Prop) : State → Prop := fun t =>
  ∃ o, t.status = .running ∧ Ended t below o ∧ vx_Q Qc XC mc ms free a s o t
theorem vx_ret {g : JFrame} {mc ms : Nat} (k : W p l e R s m args below meth c H locs cells slots (MQ below Qc args s mc ms free) g) : W p l e R s m args below meth c H locs cells slots (vx_MQ below Qc XC args s mc ms free) g := by
  intro T hT X
  obtain ⟨t, a1, o, b1, b2, b3, b4⟩ := k T hT X
  exact ⟨t, a1, o, b1, b2, Or.inl ⟨b3, b4⟩⟩
/-- not caught here: it goes on to the caller -/
theorem vx_widen {g : JFrame} {q : Addr} {k n : Nat} (h1 : cells ≤ k) (h2 : slots ≤ n) (kk : vx_W p l e R s m args below meth c H locs k n Q g q) : vx_W p l e R s m args below meth c H locs cells slots Q g q := fun T hT X => kk T hT (stand_widen X h1 h2)
theorem vx_out {pc : Nat} {E : String} {ce : Cell} {q : Addr} {mc ms : Nat} (hout : ∀ x ∈ c.exceptionTable.toList, covers x pc = false) (hlocks : meth.locks = false) (hcell : H[q]? = some ce) (hv : ce.vm = .none) (hcl : s.vm.findClass E = some ce.cls)
    (hx : ∀ t : State, t.heap = H → s.vm.Alike t.vm → XC E s t) (hf : ∀ z ∈ locs, free z.base) (hc : cells ≤ mc) (hs : slots ≤ ms) :
    vx_W p l e R s m args below meth c H locs cells slots (vx_MQ below Qc XC args s mc ms free) (F0 m pc ls rest) q := by
  intro T hT X
  obtain ⟨st1, hrun, hend, hW, hsm⟩ := X.leaveThrown q (g := F0 m pc ls rest) rfl rfl rfl hout hlocks
  have hcell9 : (T.setFrames (.throwing q :: below)).heap[q]? = some ce := by
    show T.heap[q]? = some ce
    rw [hT]; exact hcell
  exact ⟨_, st1, .threw q, hrun, hend, Or.inr ⟨q, rfl, E, ce, locs, hx _ hT hW.alike, hcell9, hv, hcl, hW, hsm.mono hc hs, hf⟩⟩
theorem vx_frame {U : State} {k n : Nat} (h : s.sameButNew ({ U with vm := s.vm } : State) locs k n) : s.heap.size ≤ U.heap.size ∧ ∀ q : Nat, q < s.heap.size → (∀ z ∈ locs, z.base ≠ q) → U.heap[q]? = s.heap[q]? := by
  obtain ⟨-, h2, -, -, -, h6⟩ := h
  refine ⟨h2, fun q hq hz => ?_⟩
  obtain ⟨c9, e1, e2, e3, e4⟩ := h6 q _ (Array.getElem?_eq_getElem hq)
  have hs : c9.slots = (s.heap[q]).slots := Array.ext_getElem? fun i => e4 i fun hm => hz _ hm rfl
  have h9 : c9 = s.heap[q] := by
    rw [hs] at e2
    exact e2
  have e5 : U.heap[q]? = some c9 := e1
  rw [e5, h9, Array.getElem?_eq_getElem hq]
/-- the words of a throw but the four that speak of the heap -/
def vx_no (w : Cond) : Bool := decide (w ≠ .isRef (.static Bundle.tN "UNASSIGNED_STACK" Bundle.steD)) && decide (w ≠ .isRef (.static Bundle.tN "SUPPRESSED_SENTINEL" Bundle.listD)) && decide (w ≠ .laysStatic Bundle.tN "UNASSIGNED_STACK" Bundle.steD) && decide (w ≠ .laysStatic Bundle.tN "SUPPRESSED_SENTINEL" Bundle.listD)
def vx_at0 (own : String) (ic : Nat) (X : String) (names : List String) : List Cond := (Bundle.ownAtoms0 own ic X names).filter vx_no
def vx_atS (own : String) (ic : Nat) (X : String) (names : List String) : List Cond := (Bundle.ownAtoms own ic X names).filter vx_no
/-- a word that the tables alone decide, or a good one -/
def vx_ot (w : Cond) : Bool := w.onTables || goodWord w
theorem vx_ot_at {args a' : Array Value} {s U : State} {w : Cond} (hW : s.WarmedH U.vm) (hvm : s.vm = U.vm) (hg : vx_ot w = true) (h : w.before args s = true) : w.before a' U = true := by
  simp only [vx_ot, Bool.or_eq_true] at hg
  rcases hg with hg | hg
  · exact va_tabs hg hvm h
  · exact word_at hW (good_of_word hg) h
/-- a list's words: the good ones out of the method's own list, the others by premises of their own -/
theorem vx_hat {args : Array Value} {s : State} {L B : List Cond} (h1 : ∀ w ∈ L.filter goodWord, w.before args s = true) (h2 : ∀ w ∈ L.filter (fun w => !goodWord w), w ∈ B) (h3 : ∀ w ∈ B, w.before args s = true) : ∀ w ∈ L, w.before args s = true := by
  intro w hw
  by_cases g : goodWord w = true
  · exact h1 w (List.mem_filter.mpr ⟨hw, g⟩)
  · refine h3 w (h2 w (List.mem_filter.mpr ⟨hw, ?_⟩))
    show (!goodWord w) = true
    cases hgw : goodWord w
    · rfl
    · exact absurd hgw g
theorem vx_c {args : Array Value} {s : State} {w : Cond} {B : List Cond} (h : w.before args s = true) (t : ∀ w ∈ B, w.before args s = true) : ∀ w' ∈ w :: B, w'.before args s = true := fun w' h' => (List.mem_cons.mp h').elim (fun e => by rw [e]; exact h) (t w')
theorem vx_n {args : Array Value} {s : State} : ∀ w ∈ ([] : List Cond), w.before args s = true := fun _ h => nomatch h
theorem vx_own {args : Array Value} {s : State} {L : List Cond} (h1 : ∀ w ∈ L.filter vx_no, w.before args s = true)
    (hU : (Cond.isRef (.static Bundle.tN "UNASSIGNED_STACK" Bundle.steD)).before args s = true) (hN : (Cond.isRef (.static Bundle.tN "SUPPRESSED_SENTINEL" Bundle.listD)).before args s = true)
    (lU : (Cond.laysStatic Bundle.tN "UNASSIGNED_STACK" Bundle.steD).before args s = true) (lN : (Cond.laysStatic Bundle.tN "SUPPRESSED_SENTINEL" Bundle.listD).before args s = true) : ∀ w ∈ L, w.before args s = true := by
  intro w hw
  by_cases e1 : w = .isRef (.static Bundle.tN "UNASSIGNED_STACK" Bundle.steD)
  · rw [e1]; exact hU
  · by_cases e2 : w = .isRef (.static Bundle.tN "SUPPRESSED_SENTINEL" Bundle.listD)
    · rw [e2]; exact hN
    · by_cases e3 : w = .laysStatic Bundle.tN "UNASSIGNED_STACK" Bundle.steD
      · rw [e3]; exact lU
      · by_cases e4 : w = .laysStatic Bundle.tN "SUPPRESSED_SENTINEL" Bundle.listD
        · rw [e4]; exact lN
        · exact h1 w (List.mem_filter.mpr ⟨hw, by unfold vx_no; rw [decide_eq_true e1, decide_eq_true e2, decide_eq_true e3, decide_eq_true e4]; rfl⟩)
/-- where a static field lies, its class's statics cell in H -/
def vx_L (C n d : String) (A : Nat → Prop) (U : State) (H : Heap) : Prop := ∃ (c : ClassId) (k : Class) (i : Nat) (f : Field) (a : Nat) (cell : Cell), U.vm.findClass C = some c ∧ U.fieldFound? C n d = some (c, k, i, f) ∧ f.isStatic = true ∧ k.statics = some a ∧ H[a]? = some cell ∧ cell.vm.isStatics = true ∧ cell.cls = c ∧ f.slot < cell.slots.size ∧ k.staticTypes[f.slot]? = some f.type ∧ ¬ A a
theorem vx_L.moved {C n d : String} {A : Nat → Prop} {u U : State} {H : Heap} (hvm : u.vm.Alike U.vm) (h : vx_L C n d A u H) : vx_L C n d A U H := by
  obtain ⟨c, k, i, f, a, cell, h1, h2, h3, h4, h5, h6, h7, h8, h9, h10⟩ := h
  obtain ⟨k', hi', he⟩ := State.fieldFound?_setVm hvm h2
  exact ⟨c, k', i, f, a, cell, by rw [hvm.findClass]; exact h1, hi', h3, by rw [he]; exact h4, h5, h6, h7, h8, by rw [he]; exact h9, h10⟩
theorem vx_L.kept {C n d : String} {A : Nat → Prop} {U : State} {H H1 : Heap} (h : vx_L C n d A U H) (hq : ∀ a : Nat, a < H.size → ¬ A a → H1[a]? = H[a]?) : vx_L C n d A U H1 := by
  obtain ⟨c, k, i, f, a, cell, h1, h2, h3, h4, h5, h6, h7, h8, h9, h10⟩ := h
  exact ⟨c, k, i, f, a, cell, h1, h2, h3, h4, by rw [hq a (Array.getElem?_eq_some_iff.mp h5).1 h10]; exact h5, h6, h7, h8, h9, h10⟩
theorem vx_L.narrow {C n d : String} {A B : Nat → Prop} {U : State} {H : Heap} (h : vx_L C n d A U H) (hAB : ∀ q, B q → A q) : vx_L C n d B U H := by
  obtain ⟨c, k, i, f, a, cell, h1, h2, h3, h4, h5, h6, h7, h8, h9, h10⟩ := h
  exact ⟨c, k, i, f, a, cell, h1, h2, h3, h4, h5, h6, h7, h8, h9, fun z => h10 (hAB _ z)⟩
theorem vx_L.word {C n d : String} {A : Nat → Prop} {s : State} {args : Array Value} (h : vx_L C n d A s s.heap) : (Cond.laysStatic C n d).before args s = true := by
  obtain ⟨c, k, i, f, a, cell, h1, h2, h3, h4, h5, h6, h7, h8, h9, -⟩ := h
  show (Cond.laysStatic C n d).holds args s none s [] = true
  exact Cond.laysStatic_of h1 h2 h3 h4 h5 h6 h7 h8 h9
/-- .. and what it holds: null or some reference -/
def vx_Zq (C n d : String) (A : Nat → Prop) (U : State) (H : Heap) : Prop := va_Zq C n d A U H ∧ vx_L C n d A U H
theorem vx_Zq.moved {C n d : String} {A : Nat → Prop} {u U : State} {H : Heap} (hvm : u.vm.Alike U.vm) (h : vx_Zq C n d A u H) : vx_Zq C n d A U H := ⟨va_Zq.moved hvm h.1, vx_L.moved hvm h.2⟩
theorem vx_Zq.kept {C n d : String} {A : Nat → Prop} {U : State} {H H1 : Heap} (h : vx_Zq C n d A U H) (hq : ∀ a : Nat, a < H.size → ¬ A a → H1[a]? = H[a]?) : vx_Zq C n d A U H1 := ⟨va_Zq.kept h.1 hq, vx_L.kept h.2 hq⟩
theorem vx_Zq.narrow {C n d : String} {A B : Nat → Prop} {U : State} {H : Heap} (h : vx_Zq C n d A U H) (hAB : ∀ q, B q → A q) : vx_Zq C n d B U H := ⟨va_Zq.narrow h.1 hAB, vx_L.narrow h.2 hAB⟩
theorem vx_Zqof {args : Array Value} {s : State} {C n d : String} {A : Nat → Prop} (hl : (Cond.laysStatic C n d).before args s = true) (hini : (Cond.initialized C).before args s = true) (h : (Cond.isRef (.static C n d)).before args s = true) (hA : ∀ a : Nat, a < s.heap.size → ¬ A a) : vx_Zq C n d A s s.heap := by
  refine ⟨va_Zqof hl hini h hA, ?_⟩
  obtain ⟨c, k, i, f, a, cell, h1, h2, h3, h4, h5, h6, h7, h8, h9⟩ := Cond.laysStatic_spec hl
  exact ⟨c, k, i, f, a, cell, h1, h2, h3, h4, h5, h6, h7, h8, h9, hA a (Array.getElem?_eq_some_iff.mp h5).1⟩
theorem vx_isRef {C n d : String} {v : Value} {A : Nat → Prop} {s : State} {args : Array Value} (h : va_Z C n d v A s s.heap) (hv : v.isRef = true) : (Cond.isRef (.static C n d)).before args s = true := by
  obtain ⟨cf, kf, fi, f, a, cell, h1, h2, h3, h4, h5, h6, h7, -⟩ := h
  have he : (Term.static C n d).eval args s none [] s = some v := by
    simp [Term.eval, State.fieldNamed?, h1, h2, h4, h5, h6, h7]
  simp only [Cond.before, Cond.holds, Cond.value, he]
  cases v <;> simp_all [Value.isRef]
theorem vx_isRefq {C n d : String} {A : Nat → Prop} {s : State} {args : Array Value} (h : va_Zq C n d A s s.heap) : (Cond.isRef (.static C n d)).before args s = true := by
  rcases h with h | ⟨t, h⟩
  · exact vx_isRef h rfl
  · exact vx_isRef h rfl
/-- the same frame, seen from here: as if the method were called anew in this heap -/
theorem vx_rebase {T : State} (X : Stand p l e R s m args below meth c T locs cells slots) {R' : Room} (hf : R'.frames ≤ R.frames) (hl : R'.locals ≤ R.locals) (hc : cells + R'.cells ≤ R.cells) (hs : slots + R'.slots ≤ R.slots) :
    Stand p l e R' ((T.setVm s.vm).setFrames (.invoking m args :: below)) m args below meth c T [] 0 0 := by
  have htop : (T.setVm s.vm).topJava?.isSome := X.here.top
  have hF : ((T.setVm s.vm).setFrames (.invoking m args :: below)).frames = .invoking m args :: below := State.frames_setFrames _ (State.cur_lt_of_top htop)
  obtain ⟨g₀, hg0⟩ := Option.isSome_iff_exists.mp htop
  obtain ⟨r, hr⟩ := State.topJava?_eq_some.mp hg0
  have hl9 : e.platform.stackLimits (T.setVm s.vm).me = e.platform.stackLimits s.me := X.limits
  have hb9 : (T.setVm s.vm).me.stackBytes = s.me.stackBytes := X.bytes
  refine ⟨X.admits, X.cas, X.clock, hF, ?_, X.hears, X.method, X.code, X.here, X.tail, X.warmed, ?_, ?_, ?_⟩
  · have h := X.room
    have hU : ((T.setVm s.vm).setFrames (.invoking m args :: below)).localsInUse = s.localsInUse := by
      rw [State.localsInUse_invoking hF (meth := meth) (c := c) X.method X.code, State.localsInUse_invoking X.frames X.method X.code]
    simp only [State.hasRoom, Bool.and_eq_true, decide_eq_true_eq] at h ⊢
    obtain ⟨⟨⟨⟨h1, h2, h3, h4, h5, h6⟩, h7⟩, h8⟩, h9⟩ := h
    rw [X.frames, List.length_cons] at h2 h3
    have q1 := X.heapSize
    have q2 := X.used
    simp only [hF, hU, List.length_cons, State.stackLimits_setFrames, State.stackBytes_setFrames, hl9, hb9]
    refine ⟨⟨⟨⟨by omega, by omega, by omega, by omega, by omega, h6⟩, ?_⟩, ?_⟩, X.book⟩
    · show T.heap.size + R'.cells ≤ e.platform.maxCells
      omega
    · show T.slotsUsed + R'.slots ≤ e.platform.maxSlots
      omega
  · rw [State.stackLimits_setFrames]; rfl
  · rw [State.stackBytes_setFrames]; rfl
  · refine ⟨?_, Nat.le_refl _, Nat.le_refl _, ?_, ?_, fun a c9 h9 => ⟨c9, h9, rfl, rfl, fun _ _ => rfl⟩⟩
    · obtain ⟨t, ht, -⟩ := State.frames_cons hr
      show T.setVm s.vm = { ((T.setVm s.vm).setFrames (.invoking m args :: below)).setFrames (T.setVm s.vm).frames with heap := T.heap, slotsUsed := T.slotsUsed }
      rw [State.setFrames_setFrames, State.setFrames_self ht]
      rfl
    · show T.slotsUsed = T.slotsUsed + ((T.heap.toList.drop T.heap.size).map (·.slots.size)).sum
      rw [List.drop_eq_nil_of_le (Nat.le_of_eq Array.length_toList)]
      rfl
    · show ((T.heap.toList.drop T.heap.size).map (·.slots.size)).sum ≤ 0
      rw [List.drop_eq_nil_of_le (Nat.le_of_eq Array.length_toList)]
      exact Nat.le_refl _
/-- 'throw new E()': new; dup; invokespecial; athrow -/
theorem vx_throw0 {cc : ByteArray} {pc : Nat} (hexec : p.tables.exec = Jvm.exec) (hb : c.code = cc) (hl : l.stackTraces = false) {own cls : String} {names : List String} {ik ic mc ms : Nat} {A : Nat → Prop}
    (hown : s.vm.findClass own = some m.cls) (hcls : Bundle.fit cls = true) (hnames : ∀ n ∈ names, Bundle.fit n = true)
    (hk : (Cond.classLink own ik cls).before args s = true) (hini : (Cond.initialized cls).before args s = true) (hat : ∀ w ∈ vx_at0 own ic cls names, w.before args s = true)
    (hgood : ∀ w ∈ Cond.classLink own ik cls :: Cond.initialized cls :: vx_at0 own ic cls names, vx_ot w = true)
    (hU : vx_Zq Bundle.tN "UNASSIGNED_STACK" Bundle.steD A s s.heap) (hN : vx_Zq Bundle.tN "SUPPRESSED_SENTINEL" Bundle.listD A s s.heap) (hS : va_S A s.heap H locs) (hsize : ls.size = c.maxLocals)
    (d0 : decode cc pc = .ok (.new ik, 3)) (d3 : decode cc (pc + 3) = .ok (.dup, 1)) (d4 : decode cc (pc + 4) = .ok (.invokespecial ic, 3)) (d7 : decode cc (pc + 7) = .ok (.athrow, 1))
    (hout : ∀ x ∈ c.exceptionTable.toList, covers x (pc + 7) = false)
    (hRframes : names.length + 3 < R.frames) (hRlocals : (rest.map fun v => v.category).sum + (13 * (names.length + 1) + 42) ≤ R.locals) (hRcells : cells + 1 ≤ R.cells) (hRslots : slots + 6 ≤ R.slots) (hlocks : meth.locks = false)
    (hx : ∀ t : State, s.vm.Alike t.vm → H.size ≤ t.heap.size → (∀ q : Nat, q < H.size → t.heap[q]? = H[q]?) → XC cls s t)
    (hf : ∀ z ∈ locs, free z.base) (hc : cells + 1 ≤ mc) (hs : slots + 6 ≤ ms) :
    W p l e R s m args below meth c H locs cells slots (vx_MQ below Qc XC args s mc ms free) (F0 m pc ls rest) := by
  intro T hT X
  have htr : e.platform.stackTraces = false := (show e.platform.stackTraces = l.stackTraces by rw [X.admits.platform]).trans hl
  have Y := vx_rebase X (R' := { frames := R.frames, locals := R.locals, cells := 1, slots := 6 }) (Nat.le_refl _) (Nat.le_refl _) hRcells hRslots
  obtain ⟨s', hA⟩ : ∃ z, z = (T.setVm s.vm).setFrames (.invoking m args :: below) := ⟨_, rfl⟩
  rw [← hA] at Y
  have hvm : s'.vm = s.vm := by rw [hA]; rfl
  have hhp : s'.heap = H := by rw [hA]; exact hT
  have hW0 : s.WarmedH s'.vm := by rw [hvm]; exact State.WarmedH.refl s
  have hat' : ∀ w ∈ vx_at0 own ic cls names, w.before args s' = true := fun w hw => vx_ot_at hW0 hvm.symm (hgood w (List.mem_cons_of_mem _ (List.mem_cons_of_mem _ hw))) (hat w hw)
  have hk' : (Cond.classLink own ik cls).before args s' = true := vx_ot_at hW0 hvm.symm (hgood _ List.mem_cons_self) hk
  have hini' : (Cond.initialized cls).before args s' = true := vx_ot_at hW0 hvm.symm (hgood _ (List.mem_cons_of_mem _ List.mem_cons_self)) hini
  have hU' : vx_Zq Bundle.tN "UNASSIGNED_STACK" Bundle.steD A s' s'.heap := by rw [hhp]; exact vx_Zq.moved hW0.alike (hU.kept hS.2.1)
  have hN' : vx_Zq Bundle.tN "SUPPRESSED_SENTINEL" Bundle.listD A s' s'.heap := by rw [hhp]; exact vx_Zq.moved hW0.alike (hN.kept hS.2.1)
  have h : ∀ w ∈ Bundle.ownAtoms0 own ic cls names, w.before args s' = true := vx_own hat' (vx_isRefq hU'.1) (vx_isRefq hN'.1) hU'.2.word hN'.2.word
  have hown' : s'.vm.findClass own = some m.cls := by rw [hvm]; exact hown
  have hins : (Cond.instantiable cls 6).before args s' = true := h _ (by simp [Bundle.ownAtoms0])
  obtain ⟨vm₁, cX, kX, hfX, hkX, -, -, X₁, st1⟩ := Y.newCold hexec (own := own) (C := cls) (index := ik) (n := 6) hown' hk' hins hini'
    (g := F0 m pc ls rest) rfl (by rw [hb]; exact d0) (Nat.le_refl _) (Nat.le_refl _)
  generalize hT1 : (T.setVm vm₁).pushCell { cls := cX, slots := kX.instanceTypes.map defaultValue, vm := .none } = T1 at X₁ st1
  have hcat : (Value.ref T.heap.size).category = 1 := rfl
  have hcellA : T1.heap[T.heap.size]? = some (freshCell cX kX) := by rw [← hT1]; exact State.heap_pushCell_size _ _
  have d3' : decode c.code (pc + 3) = .ok (.dup, 1) := by rw [hb]; exact d3
  obtain ⟨U, hsteps, hrun, hend, hW, hsame, ce, hce, hO⟩ := X₁.ctorThrow0 hexec htr (own := own) (cls := cls) (names := names) (ic := ic) hown' hcls hnames h (fun x hx => nomatch hx) hfX hkX hcellA (by rw [hhp, hT]; exact Nat.le_refl _)
    (g := { method := m, pc := pc + 4, locals := ls, stack := .ref T.heap.size :: .ref T.heap.size :: rest, locked := none }) rfl hsize rfl rfl (rest := rest) rfl
    (by rw [hb]; exact d4) (by rw [hb]; exact d7) hout hRframes (by simp only [List.map_cons, List.sum_cons, hcat]; omega) hlocks
  obtain ⟨f1, f2⟩ := vx_frame hsame
  rw [hhp] at f1 f2
  have hWs : s.WarmedH U.vm := State.WarmedH.trans hW0 hW
  have hcl : s.vm.findClass cls = some ce.cls := by
    have h9 := hO.cls
    rw [hvm] at h9
    exact h9
  have hall : s.sameButNew ({ U with vm := s.vm } : State) locs mc ms := by
    subst hA
    obtain ⟨e1, e2⟩ := hsame
    rw [State.setFrames_setFrames] at e1
    have h2 : (T.setVm s.vm).sameButNew ({ U with vm := s.vm } : State) [] (0 + 1) (0 + 6) := ⟨e1, e2⟩
    have h3 := X.same.trans h2
    rw [List.append_nil] at h3
    exact h3.mono hc hs
  refine ⟨U, ?_, .threw T.heap.size, hrun, hend, Or.inr ⟨T.heap.size, rfl, cls, ce, locs, hx U hWs.alike f1 (fun q hq => f2 q hq (fun z hz => nomatch hz)), hce, hO.vm, hcl, hWs, hall, hf⟩⟩
  refine st1 _ ?_
  show Steps p.tables e below (T1.setTop { method := m, pc := pc + 3, locals := ls, stack := .ref T.heap.size :: rest, locked := none }) _
  jvm_step X₁.here [X₁.here.top, hexec, d3', Value.category]
  exact hsteps
/-- 'throw new E("text")': new; dup; ldc; invokespecial; athrow -/
theorem vx_throwS {cc : ByteArray} {pc : Nat} (hexec : p.tables.exec = Jvm.exec) (hb : c.code = cc) (hl : l.stackTraces = false) {own cls text : String} {names : List String} {ik is ic mc ms sa : Nat} {A : Nat → Prop}
    (hown : s.vm.findClass own = some m.cls) (hcls : Bundle.fit cls = true) (hnames : ∀ n ∈ names, Bundle.fit n = true)
    (hk : (Cond.classLink own ik cls).before args s = true) (hini : (Cond.initialized cls).before args s = true) (hstr : vk_R own is text sa s) (hat : ∀ w ∈ vx_atS own ic cls names, w.before args s = true)
    (hgood : ∀ w ∈ Cond.classLink own ik cls :: Cond.initialized cls :: vx_atS own ic cls names, vx_ot w = true)
    (hU : vx_Zq Bundle.tN "UNASSIGNED_STACK" Bundle.steD A s s.heap) (hN : vx_Zq Bundle.tN "SUPPRESSED_SENTINEL" Bundle.listD A s s.heap) (hS : va_S A s.heap H locs) (hsize : ls.size = c.maxLocals)
    (d0 : decode cc pc = .ok (.new ik, 3)) (d3 : decode cc (pc + 3) = .ok (.dup, 1)) (d4 : decode cc (pc + 4) = .ok (.ldc is, 2)) (d6 : decode cc (pc + 6) = .ok (.invokespecial ic, 3)) (d9 : decode cc (pc + 9) = .ok (.athrow, 1))
    (hout : ∀ x ∈ c.exceptionTable.toList, covers x (pc + 9) = false)
    (hRframes : names.length + 3 < R.frames) (hRlocals : (rest.map fun v => v.category).sum + (13 * (names.length + 1) + 43) ≤ R.locals) (hRcells : cells + 1 ≤ R.cells) (hRslots : slots + 6 ≤ R.slots) (hlocks : meth.locks = false)
    (hx : ∀ t : State, s.vm.Alike t.vm → H.size ≤ t.heap.size → (∀ q : Nat, q < H.size → t.heap[q]? = H[q]?) → XC cls s t)
    (hf : ∀ z ∈ locs, free z.base) (hc : cells + 1 ≤ mc) (hs : slots + 6 ≤ ms) :
    W p l e R s m args below meth c H locs cells slots (vx_MQ below Qc XC args s mc ms free) (F0 m pc ls rest) := by
  intro T hT X
  have htr : e.platform.stackTraces = false := (show e.platform.stackTraces = l.stackTraces by rw [X.admits.platform]).trans hl
  have Y := vx_rebase X (R' := { frames := R.frames, locals := R.locals, cells := 1, slots := 6 }) (Nat.le_refl _) (Nat.le_refl _) hRcells hRslots
  obtain ⟨s', hA⟩ : ∃ z, z = (T.setVm s.vm).setFrames (.invoking m args :: below) := ⟨_, rfl⟩
  rw [← hA] at Y
  have hvm : s'.vm = s.vm := by rw [hA]; rfl
  have hhp : s'.heap = H := by rw [hA]; exact hT
  have hW0 : s.WarmedH s'.vm := by rw [hvm]; exact State.WarmedH.refl s
  have hat' : ∀ w ∈ vx_atS own ic cls names, w.before args s' = true := fun w hw => vx_ot_at hW0 hvm.symm (hgood w (List.mem_cons_of_mem _ (List.mem_cons_of_mem _ hw))) (hat w hw)
  have hk' : (Cond.classLink own ik cls).before args s' = true := vx_ot_at hW0 hvm.symm (hgood _ List.mem_cons_self) hk
  have hini' : (Cond.initialized cls).before args s' = true := vx_ot_at hW0 hvm.symm (hgood _ (List.mem_cons_of_mem _ List.mem_cons_self)) hini
  have hU' : vx_Zq Bundle.tN "UNASSIGNED_STACK" Bundle.steD A s' s'.heap := by rw [hhp]; exact vx_Zq.moved hW0.alike (hU.kept hS.2.1)
  have hN' : vx_Zq Bundle.tN "SUPPRESSED_SENTINEL" Bundle.listD A s' s'.heap := by rw [hhp]; exact vx_Zq.moved hW0.alike (hN.kept hS.2.1)
  have h : ∀ w ∈ Bundle.ownAtoms own ic cls names, w.before args s' = true := vx_own hat' (vx_isRefq hU'.1) (vx_isRefq hN'.1) hU'.2.word hN'.2.word
  have hown' : s'.vm.findClass own = some m.cls := by rw [hvm]; exact hown
  have hins : (Cond.instantiable cls 6).before args s' = true := h _ (by simp [Bundle.ownAtoms])
  obtain ⟨vm₁, cX, kX, hfX, hkX, -, -, X₁, st1⟩ := Y.newCold hexec (own := own) (C := cls) (index := ik) (n := 6) hown' hk' hins hini'
    (g := F0 m pc ls rest) rfl (by rw [hb]; exact d0) (Nat.le_refl _) (Nat.le_refl _)
  generalize hT1 : (T.setVm vm₁).pushCell { cls := cX, slots := kX.instanceTypes.map defaultValue, vm := .none } = T1 at X₁ st1
  have hcat : (Value.ref T.heap.size).category = 1 := rfl
  have hcellA : T1.heap[T.heap.size]? = some (freshCell cX kX) := by rw [← hT1]; exact State.heap_pushCell_size _ _
  have d3' : decode c.code (pc + 3) = .ok (.dup, 1) := by rw [hb]; exact d3
  have d4' : decode c.code (pc + 4) = .ok (.ldc is, 2) := by rw [hb]; exact d4
  have hstr' : vk_R own is text sa s' := vk_R.warm hW0 hstr
  obtain ⟨U, hsteps, hrun, hend, hW, hsame, ce, hce, hO⟩ := X₁.ctorThrowS hexec htr (own := own) (cls := cls) (names := names) (ic := ic) hown' hcls hnames h (fun x hx => nomatch hx) hfX hkX hcellA (by rw [hhp, hT]; exact Nat.le_refl _) (msg := .ref sa) rfl
    (g := { method := m, pc := pc + 6, locals := ls, stack := .ref sa :: .ref T.heap.size :: .ref T.heap.size :: rest, locked := none }) rfl hsize rfl rfl (rest := rest) rfl
    (by rw [hb]; exact d6) (by rw [hb]; exact d9) hout hRframes (by simp only [List.map_cons, List.sum_cons, hcat]; omega) hlocks
  obtain ⟨f1, f2⟩ := vx_frame hsame
  rw [hhp] at f1 f2
  have hWs : s.WarmedH U.vm := State.WarmedH.trans hW0 hW
  have hcl : s.vm.findClass cls = some ce.cls := by
    have h9 := hO.cls
    rw [hvm] at h9
    exact h9
  have hall : s.sameButNew ({ U with vm := s.vm } : State) locs mc ms := by
    subst hA
    obtain ⟨e1, e2⟩ := hsame
    rw [State.setFrames_setFrames] at e1
    have h2 : (T.setVm s.vm).sameButNew ({ U with vm := s.vm } : State) [] (0 + 1) (0 + 6) := ⟨e1, e2⟩
    have h3 := X.same.trans h2
    rw [List.append_nil] at h3
    exact h3.mono hc hs
  refine ⟨U, ?_, .threw T.heap.size, hrun, hend, Or.inr ⟨T.heap.size, rfl, cls, ce, locs, hx U hWs.alike f1 (fun q hq => f2 q hq (fun z hz => nomatch hz)), hce, hO.vm, hcl, hWs, hall, hf⟩⟩
  refine st1 _ ?_
  show Steps p.tables e below (T1.setTop { method := m, pc := pc + 3, locals := ls, stack := .ref T.heap.size :: rest, locked := none }) _
  jvm_step X₁.here [X₁.here.top, hexec, d3', Value.category]
  exact X₁.ldcString hexec (own := own) (text := text) (index := is) (a := sa) hown' hstr'.1 hstr'.2
    (g := { method := m, pc := pc + 4, locals := ls, stack := .ref T.heap.size :: .ref T.heap.size :: rest, locked := none }) rfl d4' _ hsteps
/-- 'throw new E("text")', the text by a wide index -/
theorem vx_throwSW {cc : ByteArray} {pc : Nat} (hexec : p.tables.exec = Jvm.exec) (hb : c.code = cc) (hl : l.stackTraces = false) {own cls text : String} {names : List String} {ik is ic mc ms sa : Nat} {A : Nat → Prop}
    (hown : s.vm.findClass own = some m.cls) (hcls : Bundle.fit cls = true) (hnames : ∀ n ∈ names, Bundle.fit n = true)
    (hk : (Cond.classLink own ik cls).before args s = true) (hini : (Cond.initialized cls).before args s = true) (hstr : vk_R own is text sa s) (hat : ∀ w ∈ vx_atS own ic cls names, w.before args s = true)
    (hgood : ∀ w ∈ Cond.classLink own ik cls :: Cond.initialized cls :: vx_atS own ic cls names, vx_ot w = true)
    (hU : vx_Zq Bundle.tN "UNASSIGNED_STACK" Bundle.steD A s s.heap) (hN : vx_Zq Bundle.tN "SUPPRESSED_SENTINEL" Bundle.listD A s s.heap) (hS : va_S A s.heap H locs) (hsize : ls.size = c.maxLocals)
    (d0 : decode cc pc = .ok (.new ik, 3)) (d3 : decode cc (pc + 3) = .ok (.dup, 1)) (d4 : decode cc (pc + 4) = .ok (.ldc_w is, 3)) (d7 : decode cc (pc + 7) = .ok (.invokespecial ic, 3)) (d10 : decode cc (pc + 10) = .ok (.athrow, 1))
    (hout : ∀ x ∈ c.exceptionTable.toList, covers x (pc + 10) = false)
    (hRframes : names.length + 3 < R.frames) (hRlocals : (rest.map fun v => v.category).sum + (13 * (names.length + 1) + 43) ≤ R.locals) (hRcells : cells + 1 ≤ R.cells) (hRslots : slots + 6 ≤ R.slots) (hlocks : meth.locks = false)
    (hx : ∀ t : State, s.vm.Alike t.vm → H.size ≤ t.heap.size → (∀ q : Nat, q < H.size → t.heap[q]? = H[q]?) → XC cls s t)
    (hf : ∀ z ∈ locs, free z.base) (hc : cells + 1 ≤ mc) (hs : slots + 6 ≤ ms) :
    W p l e R s m args below meth c H locs cells slots (vx_MQ below Qc XC args s mc ms free) (F0 m pc ls rest) := by
  intro T hT X
  have htr : e.platform.stackTraces = false := (show e.platform.stackTraces = l.stackTraces by rw [X.admits.platform]).trans hl
  have Y := vx_rebase X (R' := { frames := R.frames, locals := R.locals, cells := 1, slots := 6 }) (Nat.le_refl _) (Nat.le_refl _) hRcells hRslots
  obtain ⟨s', hA⟩ : ∃ z, z = (T.setVm s.vm).setFrames (.invoking m args :: below) := ⟨_, rfl⟩
  rw [← hA] at Y
  have hvm : s'.vm = s.vm := by rw [hA]; rfl
  have hhp : s'.heap = H := by rw [hA]; exact hT
  have hW0 : s.WarmedH s'.vm := by rw [hvm]; exact State.WarmedH.refl s
  have hat' : ∀ w ∈ vx_atS own ic cls names, w.before args s' = true := fun w hw => vx_ot_at hW0 hvm.symm (hgood w (List.mem_cons_of_mem _ (List.mem_cons_of_mem _ hw))) (hat w hw)
  have hk' : (Cond.classLink own ik cls).before args s' = true := vx_ot_at hW0 hvm.symm (hgood _ List.mem_cons_self) hk
  have hini' : (Cond.initialized cls).before args s' = true := vx_ot_at hW0 hvm.symm (hgood _ (List.mem_cons_of_mem _ List.mem_cons_self)) hini
  have hU' : vx_Zq Bundle.tN "UNASSIGNED_STACK" Bundle.steD A s' s'.heap := by rw [hhp]; exact vx_Zq.moved hW0.alike (hU.kept hS.2.1)
  have hN' : vx_Zq Bundle.tN "SUPPRESSED_SENTINEL" Bundle.listD A s' s'.heap := by rw [hhp]; exact vx_Zq.moved hW0.alike (hN.kept hS.2.1)
  have h : ∀ w ∈ Bundle.ownAtoms own ic cls names, w.before args s' = true := vx_own hat' (vx_isRefq hU'.1) (vx_isRefq hN'.1) hU'.2.word hN'.2.word
  have hown' : s'.vm.findClass own = some m.cls := by rw [hvm]; exact hown
  have hins : (Cond.instantiable cls 6).before args s' = true := h _ (by simp [Bundle.ownAtoms])
  obtain ⟨vm₁, cX, kX, hfX, hkX, -, -, X₁, st1⟩ := Y.newCold hexec (own := own) (C := cls) (index := ik) (n := 6) hown' hk' hins hini'
    (g := F0 m pc ls rest) rfl (by rw [hb]; exact d0) (Nat.le_refl _) (Nat.le_refl _)
  generalize hT1 : (T.setVm vm₁).pushCell { cls := cX, slots := kX.instanceTypes.map defaultValue, vm := .none } = T1 at X₁ st1
  have hcat : (Value.ref T.heap.size).category = 1 := rfl
  have hcellA : T1.heap[T.heap.size]? = some (freshCell cX kX) := by rw [← hT1]; exact State.heap_pushCell_size _ _
  have d3' : decode c.code (pc + 3) = .ok (.dup, 1) := by rw [hb]; exact d3
  have d4' : decode c.code (pc + 4) = .ok (.ldc_w is, 3) := by rw [hb]; exact d4
  have hstr' : vk_R own is text sa s' := vk_R.warm hW0 hstr
  obtain ⟨U, hsteps, hrun, hend, hW, hsame, ce, hce, hO⟩ := X₁.ctorThrowS hexec htr (own := own) (cls := cls) (names := names) (ic := ic) hown' hcls hnames h (fun x hx => nomatch hx) hfX hkX hcellA (by rw [hhp, hT]; exact Nat.le_refl _) (msg := .ref sa) rfl
    (g := { method := m, pc := pc + 7, locals := ls, stack := .ref sa :: .ref T.heap.size :: .ref T.heap.size :: rest, locked := none }) rfl hsize rfl rfl (rest := rest) rfl
    (by rw [hb]; exact d7) (by rw [hb]; exact d10) hout hRframes (by simp only [List.map_cons, List.sum_cons, hcat]; omega) hlocks
  obtain ⟨f1, f2⟩ := vx_frame hsame
  rw [hhp] at f1 f2
  have hWs : s.WarmedH U.vm := State.WarmedH.trans hW0 hW
  have hcl : s.vm.findClass cls = some ce.cls := by
    have h9 := hO.cls
    rw [hvm] at h9
    exact h9
  have hall : s.sameButNew ({ U with vm := s.vm } : State) locs mc ms := by
    subst hA
    obtain ⟨e1, e2⟩ := hsame
    rw [State.setFrames_setFrames] at e1
    have h2 : (T.setVm s.vm).sameButNew ({ U with vm := s.vm } : State) [] (0 + 1) (0 + 6) := ⟨e1, e2⟩
    have h3 := X.same.trans h2
    rw [List.append_nil] at h3
    exact h3.mono hc hs
  refine ⟨U, ?_, .threw T.heap.size, hrun, hend, Or.inr ⟨T.heap.size, rfl, cls, ce, locs, hx U hWs.alike f1 (fun q hq => f2 q hq (fun z hz => nomatch hz)), hce, hO.vm, hcl, hWs, hall, hf⟩⟩
  refine st1 _ ?_
  show Steps p.tables e below (T1.setTop { method := m, pc := pc + 3, locals := ls, stack := .ref T.heap.size :: rest, locked := none }) _
  jvm_step X₁.here [X₁.here.top, hexec, d3', Value.category]
  exact X₁.ldcStringW hexec (own := own) (text := text) (index := is) (a := sa) hown' hstr'.1 hstr'.2
    (g := { method := m, pc := pc + 4, locals := ls, stack := .ref T.heap.size :: .ref T.heap.size :: rest, locked := none }) rfl d4' _ hsteps
end Ends
section Bodies
variable {l : Launch}
theorem vx_ofW {y : MethodName} {ws ws' : List Cond} {rm : Room} {Pc : Array Value → State → Prop} {Qc : Array Value → State → Outcome → State → Prop} {XC : String → State → State → Prop} {mc ms : Nat} {free : Addr → Prop} {cc : ByteArray} {maxL : Nat} {ret : Option FieldType}
    (hy : plainName y.cls = true) (hw : ws = Cond.code y cc maxL ret :: ws')
    (body : ∀ p e s m args below meth c s₁, BodyLoose p l y (headSpec ws rm) cc maxL ret e s m args below meth c s₁ → c.maxLocals = maxL → (∀ x ∈ c.exceptionTable.toList, False) → Pc args s →
      W p l e (headSpec ws rm).room s m args below meth c s.heap [] 0 0 (vx_MQ below Qc XC args s mc ms free) (entryFrame m args maxL)) : vx_Met l y ws rm Pc Qc XC mc ms free := by
  refine MetFree.of_bodyS (code := cc) (maxLocals := maxL) (ret := ret) hy ?_ ?_
  · intro args s m h hn
    obtain ⟨meth, c, h1, h2, h3, h4, h5, h6, -, -⟩ := Cond.code_spec hn (atoms_spec (ws := ws) h _ (by rw [hw]; exact List.mem_cons_self))
    exact ⟨meth, c, h1, h2, h3, h4, h5, h6⟩
  · intro p e s m args below meth c s₁ B hml hP _
    have hh0 : s₁.heap = s.heap := by rw [B.state]; rfl
    have ht : ∀ x ∈ c.exceptionTable.toList, False := by
      obtain ⟨meth9, c9, h1, h2, -, -, -, -, h7, -⟩ := Cond.code_spec B.named (atoms_spec (ws := ws) B.pre _ (by rw [hw]; exact List.mem_cons_self))
      cases Option.some.inj (h1.symm.trans B.method)
      cases Option.some.inj (h2.symm.trans (Stand.of_body B).code)
      intro x hx
      rw [Array.isEmpty_iff.mp h7] at hx
      cases hx
    obtain ⟨t, a1, o, b1, b2, b3⟩ := body p e s m args below meth c s₁ B hml ht hP s₁ hh0 (Stand.of_body B)
    exact ⟨t, o, a1, b1, b2, b3⟩
/-- the table of a body with handlers -/
theorem vx_table {p : Program} {x y : MethodName} {S : Spec} {cc bytes : ByteArray} {maxL maxL' : Nat} {ret ret' : Option FieldType} {e : Env} {s s₁ : State} {m : MethodId} {args : Array Value} {below : List Frame} {meth : Method} {c : Code} {hh : List (Nat × Nat × Nat × Nat)}
    (B : BodyLoose p l y S cc maxL ret e s m args below meth c s₁) (h : (Cond.codeWith y bytes maxL' ret' hh).before args s = true) : c.exceptionTable.toList = tableOf hh := by
  obtain ⟨m9, meth9, c9, hn9, h1, h2, -, -, h6, -⟩ := Cond.codeWith_spec h
  cases Option.some.inj (hn9.symm.trans B.named)
  cases Option.some.inj (h1.symm.trans B.method)
  cases Option.some.inj (h2.symm.trans (Stand.of_body B).code)
  rw [← h6, table_eq]
end Bodies
end VXA
/-! ===== END ===== -/
/-! ===== BEGIN a static call of a method with an exception table ===== -/
section VXS
variable {p : Program} {l : Launch} {e : Env} {R : Room} {s : State} {m : MethodId} {args : Array Value} {below : List Frame} {meth : Method} {c : Code} {T : State} {H : Heap} {locs : List Loc} {cells slots : Nat}
abbrev vx_CSW (R : Room) (s : State) (args : Array Value) (own : String) (index : Nat) (y : MethodName) (bytes : ByteArray) (maxL : Nat) (ret : Option FieldType) (hh : List (Nat × Nat × Nat × Nat)) (ws : List Cond) (rm : Room) (mc ms n : Nat) : Prop :=
  (rm.cells = mc ∧ rm.slots = ms ∧ rm.frames + 1 ≤ R.frames ∧ 8 + (maxL + 11) + rm.locals ≤ R.locals ∧ (∀ w ∈ ws, ∀ (a' : Array Value) (U : State), s.WarmedH U.vm → w.before a' U = true) ∧ Cond.codeWith y bytes maxL ret hh ∈ ws) ∧
  (Cond.codeWith y bytes maxL ret hh).before args s = true ∧ (Cond.initialized y.cls).before args s = true ∧ (y.cls ≠ "java/lang/invoke/MethodHandle" ∧ y.cls ≠ "java/lang/invoke/VarHandle") ∧
  (∀ sig, parseMethodDescriptor y.desc = some sig → n = sig.parameters.length) ∧ (Cond.methodLink own index y).before args s = true ∧ (Cond.static y).before args s = true
theorem vx_cwSW {own : String} {index maxL mc ms : Nat} {y : MethodName} {bytes : ByteArray} {ret : Option FieldType} {hh : List (Nat × Nat × Nat × Nat)} {Ts ws ws' : List Cond} {rm : Room} (n : Nat) (ht : ∀ w ∈ Ts, w.before args s = true) (hT : GoodIn Ts (va_wsS own index y ws)) (hw : ws = Cond.codeWith y bytes maxL ret hh :: ws') (hrc : rm.cells = mc) (hrs : rm.slots = ms)
    (hd : y.cls ≠ "java/lang/invoke/MethodHandle" ∧ y.cls ≠ "java/lang/invoke/VarHandle" ∧ (parseMethodDescriptor y.desc).map (fun d => d.parameters.length) = some n) (hR : rm.frames + 1 ≤ R.frames ∧ 8 + (maxL + 11) + rm.locals ≤ R.locals) :
    vx_CSW R s args own index y bytes maxL ret hh ws rm mc ms n := by
  have ok : ∀ w ∈ va_wsS own index y ws, w.before args s = true := fun w h => ht w (hT w h).1
  have hG : GoodIn Ts ws := fun w h => hT w (by unfold va_wsS; exact List.mem_append_right _ h)
  have hc : Cond.codeWith y bytes maxL ret hh ∈ ws := by rw [hw]; exact List.mem_cons_self
  refine ⟨⟨hrc, hrs, hR.1, hR.2, pay_in ht hG, hc⟩, ht _ (hG _ hc).1, ok _ (by simp [va_wsS]), ⟨hd.1, hd.2.1⟩, fun sig h => ?_, ok _ (by simp [va_wsS]), ok _ (by simp [va_wsS])⟩
  have h2 := hd.2.2
  rw [h] at h2
  exact (Option.some.inj h2).symm
theorem vx_callSW (X : Stand p l e R s m args below meth c T locs cells slots) (hexec : p.tables.exec = Jvm.exec) {own : String} {index : Nat} {y : MethodName} {bytes : ByteArray} {maxL : Nat} {ret : Option FieldType} {hh : List (Nat × Nat × Nat × Nat)}
    (hown : s.vm.findClass own = some m.cls) (hlink : (Cond.methodLink own index y).before args s = true) (hstat : (Cond.static y).before args s = true) (hinit : (Cond.initialized y.cls).before args s = true)
    (hcode : (Cond.codeWith y bytes maxL ret hh).before args s = true) (hy : y.cls ≠ "java/lang/invoke/MethodHandle" ∧ y.cls ≠ "java/lang/invoke/VarHandle")
    {W9 : Nat} {Pre : Pt → Array Value → Prop} {Post : Pt → Array Value → Option Value → Pt → Prop} (hK : Back l R p e below s args y 3 W9 Pre Post)
    {g : JFrame} (hg : g.method = m) (hsize : g.locals.size = c.maxLocals) {argsL rest : List Value} (hlen : ∀ sig, parseMethodDescriptor y.desc = some sig → argsL.length = sig.parameters.length)
    (hstack : g.stack = argsL.reverse ++ rest) (hW : 2 * g.monitorRoom + (rest.map fun v => v.category).sum ≤ W9) (hdg : decode c.code g.pc = .ok (.invokestatic index, 3))
    (hpre : ∀ vm₁, s.WarmedH vm₁ → Pre ⟨T.setVm vm₁, locs, cells, slots⟩ argsL.toArray) :
    ∃ (v : Option Value) (vm₁ : Vm) (B : Pt), s.WarmedH vm₁ ∧ Stand p l e R s m args below meth c B.U B.locs B.cells B.slots ∧ Post ⟨T.setVm vm₁, locs, cells, slots⟩ argsL.toArray v B ∧
      ∀ target, Steps p.tables e below (B.U.setTop { g with pc := g.pc + 3, stack := v.toList ++ rest }) target → Steps p.tables e below (T.setTop g) target := by
  obtain ⟨mk, methM, cM, hnamed, hmethM, -, -, -, -, -, -, hsigM⟩ := Cond.codeWith_spec hcode
  have hstatic : methM.isStatic = true := Cond.static_spec hnamed hmethM hstat
  obtain ⟨kP, hkP, -⟩ := className_of_methodNamed hnamed
  have hinitP : kP.init = .initialized := Cond.initialized_spec (findClass_of_methodNamed hnamed) hkP hinit
  obtain ⟨vm₁, X₁, hstep₁⟩ := X.invokestatic hexec hown hlink hnamed hmethM hstatic hkP hinitP hy (g := g) hg (argsL := argsL) (rest := rest) (hlen _ hsigM) hstack hdg
  obtain ⟨v, B, X', hpost, hsteps⟩ := hK m meth c ⟨T.setVm vm₁, locs, cells, slots⟩ { g with stack := rest } (.invokestatic index) mk argsL.toArray X₁ hg hsize hdg hW (X₁.named hnamed) (hpre vm₁ X₁.warmed)
  exact ⟨v, vm₁, B, X₁.warmed, X', hpost, fun target h => hstep₁ _ fun acts => by rw [doInvoke_state]; exact hsteps.trans h⟩
theorem vx_runSW {y : MethodName} {bytes cc : ByteArray} {maxL nL mc ms n index : Nat} {ret : Option FieldType} {hh : List (Nat × Nat × Nat × Nat)} {ws : List Cond} {rm : Room} {Pc : Array Value → State → Prop} {Qc : Array Value → State → Outcome → State → Prop} {free : Addr → Prop} {Ts : List Cond} {own : String} {As rest : List Value} {g : JFrame}
    (S : CallFix p m c cc nL s args Ts own) (hM : Met l y ws rm Pc Qc mc ms free) (cw : vx_CSW R s args own index y bytes maxL ret hh ws rm mc ms n) (hp : PreS s H Pc As)
    (hg : g.method = m) (hn : As.length = n) (hsize : g.locals.size = nL) (hstack : g.stack = As.reverse ++ rest) (hW : 2 * g.monitorRoom + (rest.map fun v => v.category).sum ≤ 8) (hdg : decode cc g.pc = .ok (.invokestatic index, 3)) (hf : cells + mc ≤ R.cells ∧ slots + ms ≤ R.slots) :
    va_Run p l e R s m args below meth c H locs cells slots mc ms g rest (Qc As.toArray) (free) := by
  obtain ⟨⟨hrc, hrs, hfr, hlo, hws, hcw⟩, hcode, hini, hy, hlen, hl, hstt⟩ := cw
  have hK : Back l R p e below s args y 3 8 (PreOf R mc ms Pc) (PostOf Qc mc ms free) := va_backW (hh := hh) (bytes := bytes) (maxL := maxL) (ret := ret) hM hp.1 hrc hrs hfr hlo hws hcw (fun a' U hW => word_at hW (Or.inl (by first | rfl | simp [Cond.onTables, Cond.keeps, Cond.steady])) hini)
  obtain ⟨hx, hb, hml, ho, -⟩ := S
  intro T hT X
  obtain ⟨v, vm₁, ⟨U', l2, c2, s2⟩, hW₁, X', ⟨g', mk, t, L, e1, e2, hq, h1, hL, h2, h3⟩, st⟩ := vx_callSW X hx (hh := hh) (bytes := bytes) (maxL := maxL) (ret := ret) ho hl hstt hini hcode hy hK hg (hsize.trans hml.symm) (argsL := As) (rest := rest) (fun sig h => hn.trans (hlen sig h)) hstack hW (by rw [hb]; exact hdg)
    (fun vm₁ hW₁ => ⟨hf.1, hf.2, hp.2 (T.setVm vm₁) hT hW₁⟩)
  dsimp only [Pt.U, Pt.locs, Pt.cells, Pt.slots] at X' e1 e2 h1 h2 h3 st
  subst h1; subst h2; subst h3
  exact ⟨v, (T.setVm vm₁).calling g' mk As.toArray, t, U', L, hT, X', hL, e1, e2, hq, st⟩
/-- not caught here, past rows that name other classes: it goes on to the caller -/
theorem vx_outP {p : Program} {l : Launch} {e : Env} {R : Room} {s : State} {m : MethodId} {args : Array Value} {below : List Frame} {meth : Method} {c : Code} {H : Heap} {locs : List Loc} {cells slots : Nat} {free : Addr → Prop} {ls : Array Slot} {rest : List Value} {Qc : Array Value → State → Outcome → State → Prop} {XC : String → State → State → Prop}
    {pc : Nat} {own E : String} {ce : Cell} {q : Addr} {mc ms : Nat} (hown : s.vm.findClass own = some m.cls) (hlocks : meth.locks = false)
    (hpass : ∀ z ∈ c.exceptionTable.toList, covers z pc = false ∨ (z.catchType ≠ 0 ∧ ∃ nm : String, (Cond.classLink own z.catchType nm).before args s = true ∧ va_Nc E nm s)) (hcell : H[q]? = some ce) (hv : ce.vm = .none) (hcl : s.vm.findClass E = some ce.cls)
    (hx : ∀ t : State, t.heap = H → s.vm.Alike t.vm → XC E s t) (hf : ∀ z ∈ locs, free z.base) (hc : cells ≤ mc) (hs : slots ≤ ms) :
    vx_W p l e R s m args below meth c H locs cells slots (vx_MQ below Qc XC args s mc ms free) (F0 m pc ls rest) q := by
  intro T hT X
  have hpl : e.platform.magicAccessors = ({} : Platform).magicAccessors := by rw [X.admits.platform]
  obtain ⟨vm', hW', X', st⟩ := X.outThrough hlocks q (g := F0 m pc ls rest) rfl rfl rfl (cell := ce) (by rw [hT]; exact hcell) (by rw [hv]; rfl)
    (by obtain ⟨k9, h9, -⟩ := Vm.findClass_spec hcl; exact ⟨k9, h9⟩) (fun z hz => by
      rcases hpass z hz with h | ⟨hz0, nm, hl1, hn1⟩
      · exact Or.inl h
      · obtain ⟨c6, hc6, hcl6⟩ := Cond.classLink_spec hown hl1 e.platform hpl
        obtain ⟨a8, b8, h1, h2, h3⟩ := hn1
        cases Option.some.inj (h1.symm.trans hcl)
        cases Option.some.inj (h2.symm.trans hc6)
        exact Or.inr ⟨hz0, _, hcl6, h3⟩)
  obtain ⟨g₀, hfr⟩ := X'.frames_eq
  have hcell9 : ((T.setVm vm').setFrames (.throwing q :: below)).heap[q]? = some ce := by
    show T.heap[q]? = some ce
    rw [hT]; exact hcell
  have hend : Ended ((T.setVm vm').setFrames (.throwing q :: below)) below (.threw q) := State.frames_setFrames _ (State.cur_lt_of_frames hfr)
  refine ⟨(T.setVm vm').setFrames (.throwing q :: below), ?_, .threw q, X'.here.running, hend, Or.inr ⟨q, rfl, E, ce, locs, hx _ hT (X'.ends _).1.alike, hcell9, hv, hcl, (X'.ends _).1, (X'.ends _).2.mono hc hs, hf⟩⟩
  rw [X.pushThrowing_eq]
  exact st
/-- a thing of a world lies in the heap -/
theorem vx_lt {D : va_G} {cl : List vw_C} {ws : va_W} {H1 : Heap} (h : va_P D cl ws H1) {k : Nat} {q : Nat × va_E} (hk : ws[k]? = some q) : q.1 < H1.size := (h k q hk).lt
end VXS
/-! ===== END ===== -/
/-! ===== BEGIN methods with a table of their own: called by a name, returning or throwing ===== -/
section VXH
/-! vx_backW, vx_callVX, vx_callSX, vx_callVW, vx_runVW, vx_runVX, vx_runSX, vx_ofWH follow the same proofs as their sisters above (Free/Laws.lean, Shelf42/LK1.lean); vx_outP calls Shelf42/NT130.lean (outThrough). -/
section
variable {l : Launch} {R : Room} {p : Program} {e : Env} {below : List Frame} {s : State} {sargs : Array Value} {y : MethodName} {len W9 : Nat}
theorem vx_backW {ws : List Cond} {rm : Room} {Pc : Array Value → State → Prop} {Qc : Array Value → State → Outcome → State → Prop} {XC : String → State → State → Prop} {mc ms : Nat} {free : Addr → Prop} {bytes : ByteArray} {maxL : Nat} {ret : Option FieldType} {hh : List (Nat × Nat × Nat × Nat)}
    (hM : vx_Met l y ws rm Pc Qc XC mc ms free) (hblind : FrameBlind Pc) (hrc : rm.cells = mc) (hrs : rm.slots = ms)
    (hframes : rm.frames + 1 ≤ R.frames) (hlocals : W9 + (maxL + 11) + rm.locals ≤ R.locals)
    (hws : ∀ w ∈ ws, ∀ a' U, s.WarmedH U.vm → w.before a' U = true) (hcode : Cond.codeWith y bytes maxL ret hh ∈ ws) (hinit : ∀ a' U, s.WarmedH U.vm → (Cond.initialized y.cls).before a' U = true) :
    vx_Back l R p e below s sargs y len W9 (PreOf R mc ms Pc) (PostOf Qc mc ms free) (vx_Post XC mc ms free) := by
  intro m meth c A g ig mk a X hg hsize hdg hW hn hp
  have h1 : (headSpec ws rm).pre.before a A.U = true := atoms_intro fun w hw => hws w hw _ _ X.warmed
  have h2 : (Cond.codeWith y bytes maxL ret hh).before a A.U = true := hws _ hcode _ _ X.warmed
  have h3 : (Cond.initialized y.cls).before a A.U = true := hinit _ _ X.warmed
  have h4 : A.cells + (headSpec ws rm).room.cells ≤ R.cells := by rw [show (headSpec ws rm).room.cells = mc from hrc]; exact hp.1
  have h5 : A.slots + (headSpec ws rm).room.slots ≤ R.slots := by rw [show (headSpec ws rm).room.slots = ms from hrs]; exact hp.2.1
  have hPc : Pc a (A.U.calling g mk a) := hblind _ _ _ _ hp.2.2
  obtain ⟨U, Ls, c0, s0⟩ := A
  dsimp only [Pt.U, Pt.locs, Pt.cells, Pt.slots] at h1 h2 h3 h4 h5 X hn hPc ⊢
  obtain ⟨m9, methY, cY, hn9, hmY, hcY, -, hlY, -⟩ := Cond.codeWith_spec h2
  cases Option.some.inj (hn9.symm.trans hn)
  obtain ⟨kY, hkY, -⟩ := className_of_methodNamed hn
  have hinitY : kY.init = .initialized := Cond.initialized_spec (findClass_of_methodNamed hn) hkY h3
  have h : At U g.method c below := by rw [hg]; exact X.here
  have hlocals9 : W9 + (maxL + 11) + (headSpec ws rm).room.locals ≤ R.locals := hlocals
  have happ : (headSpec ws rm).appliesLoose y e.platform (U.calling g mk a) = true :=
    Spec.appliesLoose_calling (g := g) h hdg hn hkY hinitY
      (X.room_calling (g := g) (R' := (headSpec ws rm).room) hsize hmY hcY hframes (by rw [hlY]; omega) h4 h5) h1
  obtain ⟨mid, hmid⟩ := h.above
  have hfr : (U.setTop g).frames = (.java g :: mid) ++ below := by rw [State.frames_setTop' g h.top, hmid]; rfl
  obtain ⟨o, s₂, hsteps, -, hend, hq⟩ := Steps.callFree hM p X.admits X.cas X.clock (acts := []) hfr happ hPc trivial
  have hq' : vx_Q Qc XC mc ms free a (U.calling g mk a) o s₂ := hq
  rw [State.frames_setTop' g h.top] at hend
  obtain ⟨g₀, hg0⟩ := Option.isSome_iff_exists.mp h.top
  obtain ⟨r, hr⟩ := State.topJava?_eq_some.mp hg0
  have hr' : (({ U with heap := s₂.heap, slotsUsed := s₂.slotsUsed } : State).setVm s₂.vm).frames = .java g₀ :: r := hr
  rcases hq' with ⟨hqc, L, hfe, hL⟩ | ⟨q, rfl, E, ce, L, hx, hce, hcv, hcl, hW₂, hsm, hL⟩
  · obtain ⟨⟨v, rfl⟩, hW₂, e2, q2, q3, q4, q5, q6⟩ := id hfe
    have e3 : s₂ = ({ (U.calling g mk a).setFrames s₂.frames with heap := s₂.heap, slotsUsed := s₂.slotsUsed } : State).setVm s₂.vm := by
      have : s₂ = ({ s₂ with vm := (U.calling g mk a).vm } : State).setVm s₂.vm := rfl
      rw [e2] at this
      exact this
    obtain ⟨c₂, i₂, len₂, hc₂, hd₂, hf₂⟩ := hend
    have hW' : U.WarmedH s₂.vm := hW₂
    have hcc : c₂ = c := by
      have h1 : s₂.code? g.method = U.code? g.method := by
        rw [State.code?_eq, State.code?_eq, hW'.alike.method?]
      exact Option.some.inj (hc₂.symm.trans (h1.trans h.code))
    subst hcc
    have hlen : len₂ = len := by rw [hdg] at hd₂; cases hd₂; rfl
    subst hlen
    have hs₂ : s₂ = (({ U with heap := s₂.heap, slotsUsed := s₂.slotsUsed } : State).setVm s₂.vm).setTop { g with pc := g.pc + len₂, stack := v.toList ++ g.stack } := by
      refine e3.trans ?_
      rw [hf₂, State.calling_eq h.top, State.setFrames_setFrames, State.setTop_of_frames _ hr', hr]
      rfl
    have hsame : U.sameButNew ({ U with heap := s₂.heap, slotsUsed := s₂.slotsUsed } : State) L mc ms := by
      refine ⟨?_, q2, q3, q4, q5, q6⟩
      obtain ⟨t, ht, -⟩ := State.frames_cons hr
      show ({ U with heap := s₂.heap, slotsUsed := s₂.slotsUsed } : State) = { U.setFrames U.frames with heap := s₂.heap, slotsUsed := s₂.slotsUsed }
      rw [State.setFrames_self ht]
    subst hg
    refine Or.inl ⟨v, ⟨(({ U with heap := s₂.heap, slotsUsed := s₂.slotsUsed } : State).setVm s₂.vm), Ls ++ L, c0 + mc, s0 + ms⟩,
      ⟨X.admits, X.cas, X.clock, X.frames, X.room, X.hears, X.method, X.code, (X.here.setHeapUsed s₂.heap s₂.slotsUsed).setVm hW'.alike, X.tail, State.WarmedH.trans X.warmed hW', X.limits, X.bytes, X.same.trans (hsame.setVm s.vm)⟩,
      ⟨g, mk, s₂, L, rfl, rfl, hqc, rfl, hL, rfl, rfl⟩, ?_⟩
    show Steps p.tables e below _ ((({ U with heap := s₂.heap, slotsUsed := s₂.slotsUsed } : State).setVm s₂.vm).setTop { g with pc := g.pc + len₂, stack := v.toList ++ g.stack })
    rw [← hs₂]
    exact hsteps
  · obtain ⟨e2, q2, q3, q4, q5, q6⟩ := id hsm
    have e3 : s₂ = ({ (U.calling g mk a).setFrames s₂.frames with heap := s₂.heap, slotsUsed := s₂.slotsUsed } : State).setVm s₂.vm := by
      have : s₂ = ({ s₂ with vm := (U.calling g mk a).vm } : State).setVm s₂.vm := rfl
      rw [e2] at this
      exact this
    have hf₂ : s₂.frames = .throwing q :: .java g :: U.frames.tail := hend
    have hW' : U.WarmedH s₂.vm := hW₂
    have hs₂ : s₂ = ((({ U with heap := s₂.heap, slotsUsed := s₂.slotsUsed } : State).setVm s₂.vm).setTop g).pushFrame (.throwing q) := by
      refine e3.trans ?_
      rw [hf₂, State.calling_eq h.top, State.setFrames_setFrames, State.pushFrame, State.frames_setTop _ hr', State.setTop_of_frames _ hr', State.setFrames_setFrames, hr]
      rfl
    have hsame : U.sameButNew ({ U with heap := s₂.heap, slotsUsed := s₂.slotsUsed } : State) L mc ms := by
      refine ⟨?_, q2, q3, q4, q5, q6⟩
      obtain ⟨t, ht, -⟩ := State.frames_cons hr
      show ({ U with heap := s₂.heap, slotsUsed := s₂.slotsUsed } : State) = { U.setFrames U.frames with heap := s₂.heap, slotsUsed := s₂.slotsUsed }
      rw [State.setFrames_self ht]
    subst hg
    refine Or.inr ⟨q, ⟨(({ U with heap := s₂.heap, slotsUsed := s₂.slotsUsed } : State).setVm s₂.vm), Ls ++ L, c0 + mc, s0 + ms⟩,
      ⟨X.admits, X.cas, X.clock, X.frames, X.room, X.hears, X.method, X.code, (X.here.setHeapUsed s₂.heap s₂.slotsUsed).setVm hW'.alike, X.tail, State.WarmedH.trans X.warmed hW', X.limits, X.bytes, X.same.trans (hsame.setVm s.vm)⟩,
      ⟨g, mk, s₂, L, E, ce, rfl, rfl, hx, hce, hcv, hcl, rfl, hL, rfl, rfl⟩, ?_⟩
    show Steps p.tables e below _ (((({ U with heap := s₂.heap, slotsUsed := s₂.slotsUsed } : State).setVm s₂.vm).setTop g).pushFrame (.throwing q))
    rw [← hs₂]
    exact hsteps
end
variable {p : Program} {l : Launch} {e : Env} {R : Room} {s : State} {m : MethodId} {args : Array Value} {below : List Frame} {meth : Method} {c : Code} {T : State} {H : Heap} {locs : List Loc} {cells slots : Nat}
theorem vx_callVX (X : Stand p l e R s m args below meth c T locs cells slots) (hexec : p.tables.exec = Jvm.exec) {own C : String} {index : Nat} {y : MethodName} {bytes : ByteArray} {maxL : Nat} {ret : Option FieldType} {hh : List (Nat × Nat × Nat × Nat)}
    (hown : s.vm.findClass own = some m.cls) (hlink : (Cond.methodLink own index y).before args s = true) (hinst : (Cond.instanceMethod y).before args s = true) (hsel : (Cond.selects C y y).before args s = true)
    (hcode : (Cond.codeWith y bytes maxL ret hh).before args s = true) (hy : y.cls ≠ "java/lang/invoke/MethodHandle" ∧ y.cls ≠ "java/lang/invoke/VarHandle")
    {W9 : Nat} {Pre : Pt → Array Value → Prop} {Post : Pt → Array Value → Option Value → Pt → Prop} {PostX : Pt → Array Value → Addr → Pt → Prop} (hK : vx_Back l R p e below s args y 3 W9 Pre Post PostX)
    {b : Addr} {cellB : Cell} (hcell : T.heap[b]? = some cellB) (hobj : cellB.vm.isStatics = false) (hcls : s.vm.findClass C = some cellB.cls)
    {g : JFrame} (hg : g.method = m) (hsize : g.locals.size = c.maxLocals) {argsL rest : List Value} (hlen : ∀ sig, parseMethodDescriptor y.desc = some sig → argsL.length = sig.parameters.length)
    (hstack : g.stack = argsL.reverse ++ .ref b :: rest) (hW : 2 * g.monitorRoom + (rest.map fun v => v.category).sum ≤ W9) (hdg : decode c.code g.pc = .ok (.invokevirtual index, 3))
    (hpre : ∀ vm₁, s.WarmedH vm₁ → Pre ⟨T.setVm vm₁, locs, cells, slots⟩ (Value.ref b :: argsL).toArray) :
    (∃ (v : Option Value) (vm₁ : Vm) (B : Pt), s.WarmedH vm₁ ∧ Stand p l e R s m args below meth c B.U B.locs B.cells B.slots ∧ Post ⟨T.setVm vm₁, locs, cells, slots⟩ (Value.ref b :: argsL).toArray v B ∧
      ∀ target, Steps p.tables e below (B.U.setTop { g with pc := g.pc + 3, stack := v.toList ++ rest }) target → Steps p.tables e below (T.setTop g) target) ∨
    (∃ (q : Addr) (vm₁ : Vm) (B : Pt), s.WarmedH vm₁ ∧ Stand p l e R s m args below meth c B.U B.locs B.cells B.slots ∧ PostX ⟨T.setVm vm₁, locs, cells, slots⟩ (Value.ref b :: argsL).toArray q B ∧
      Steps p.tables e below (T.setTop g) ((B.U.setTop { g with stack := rest }).pushFrame (.throwing q))) := by
  obtain ⟨mk, methM, hnamed, hmethM, hstM, habM⟩ := Cond.instanceMethod_spec hinst
  obtain ⟨m8, methM', cM, hn8, hmethM', -, -, -, -, -, -, hsigM⟩ := Cond.codeWith_spec hcode
  cases Option.some.inj (hn8.symm.trans hnamed)
  cases hmethM.symm.trans hmethM'
  obtain ⟨c2, r2, m2, q1, q2, q3, q4, kP, hkP, hkPi⟩ := Cond.selects_spec hsel
  cases hcls.symm.trans q1
  cases (State.methodFound?_of_named hnamed hy).symm.trans q2
  cases hnamed.symm.trans q3
  have hselP : selectMethod e.platform s.vm cellB.cls mk = .method mk := by rw [Launch.admits_selectMethod X.admits]; exact q4
  obtain ⟨vm₁, X₁, hstep₁⟩ := X.invokevirtual hexec hown hlink hnamed hmethM hstM hkP hkPi hy (a := b) (cell := cellB) hcell
    (fun z h => by rw [h] at hobj; cases hobj) hselP hmethM habM hkP hkPi (g := g) hg (argsL := argsL) (rest := rest) (hlen _ hsigM) hstack hdg
  rcases hK m meth c ⟨T.setVm vm₁, locs, cells, slots⟩ { g with stack := rest } (.invokevirtual index) mk (Value.ref b :: argsL).toArray X₁ hg hsize hdg hW (X₁.named hnamed) (hpre vm₁ X₁.warmed) with ⟨v, B, X', hpost, hsteps⟩ | ⟨q, B, X', hpost, hsteps⟩
  · exact Or.inl ⟨v, vm₁, B, X₁.warmed, X', hpost, fun target h => hstep₁ _ fun acts => by rw [doInvoke_state]; exact hsteps.trans h⟩
  · exact Or.inr ⟨q, vm₁, B, X₁.warmed, X', hpost, hstep₁ _ fun acts => by rw [doInvoke_state]; exact hsteps⟩
theorem vx_callSX (X : Stand p l e R s m args below meth c T locs cells slots) (hexec : p.tables.exec = Jvm.exec) {own : String} {index : Nat} {y : MethodName} {bytes : ByteArray} {maxL : Nat} {ret : Option FieldType} {hh : List (Nat × Nat × Nat × Nat)}
    (hown : s.vm.findClass own = some m.cls) (hlink : (Cond.methodLink own index y).before args s = true) (hstat : (Cond.static y).before args s = true) (hinit : (Cond.initialized y.cls).before args s = true)
    (hcode : (Cond.codeWith y bytes maxL ret hh).before args s = true) (hy : y.cls ≠ "java/lang/invoke/MethodHandle" ∧ y.cls ≠ "java/lang/invoke/VarHandle")
    {W9 : Nat} {Pre : Pt → Array Value → Prop} {Post : Pt → Array Value → Option Value → Pt → Prop} {PostX : Pt → Array Value → Addr → Pt → Prop} (hK : vx_Back l R p e below s args y 3 W9 Pre Post PostX)
    {g : JFrame} (hg : g.method = m) (hsize : g.locals.size = c.maxLocals) {argsL rest : List Value} (hlen : ∀ sig, parseMethodDescriptor y.desc = some sig → argsL.length = sig.parameters.length)
    (hstack : g.stack = argsL.reverse ++ rest) (hW : 2 * g.monitorRoom + (rest.map fun v => v.category).sum ≤ W9) (hdg : decode c.code g.pc = .ok (.invokestatic index, 3))
    (hpre : ∀ vm₁, s.WarmedH vm₁ → Pre ⟨T.setVm vm₁, locs, cells, slots⟩ argsL.toArray) :
    (∃ (v : Option Value) (vm₁ : Vm) (B : Pt), s.WarmedH vm₁ ∧ Stand p l e R s m args below meth c B.U B.locs B.cells B.slots ∧ Post ⟨T.setVm vm₁, locs, cells, slots⟩ argsL.toArray v B ∧
      ∀ target, Steps p.tables e below (B.U.setTop { g with pc := g.pc + 3, stack := v.toList ++ rest }) target → Steps p.tables e below (T.setTop g) target) ∨
    (∃ (q : Addr) (vm₁ : Vm) (B : Pt), s.WarmedH vm₁ ∧ Stand p l e R s m args below meth c B.U B.locs B.cells B.slots ∧ PostX ⟨T.setVm vm₁, locs, cells, slots⟩ argsL.toArray q B ∧
      Steps p.tables e below (T.setTop g) ((B.U.setTop { g with stack := rest }).pushFrame (.throwing q))) := by
  obtain ⟨mk, methM, cM, hnamed, hmethM, -, -, -, -, -, -, hsigM⟩ := Cond.codeWith_spec hcode
  have hstatic : methM.isStatic = true := Cond.static_spec hnamed hmethM hstat
  obtain ⟨kP, hkP, -⟩ := className_of_methodNamed hnamed
  have hinitP : kP.init = .initialized := Cond.initialized_spec (findClass_of_methodNamed hnamed) hkP hinit
  obtain ⟨vm₁, X₁, hstep₁⟩ := X.invokestatic hexec hown hlink hnamed hmethM hstatic hkP hinitP hy (g := g) hg (argsL := argsL) (rest := rest) (hlen _ hsigM) hstack hdg
  rcases hK m meth c ⟨T.setVm vm₁, locs, cells, slots⟩ { g with stack := rest } (.invokestatic index) mk argsL.toArray X₁ hg hsize hdg hW (X₁.named hnamed) (hpre vm₁ X₁.warmed) with ⟨v, B, X', hpost, hsteps⟩ | ⟨q, B, X', hpost, hsteps⟩
  · exact Or.inl ⟨v, vm₁, B, X₁.warmed, X', hpost, fun target h => hstep₁ _ fun acts => by rw [doInvoke_state]; exact hsteps.trans h⟩
  · exact Or.inr ⟨q, vm₁, B, X₁.warmed, X', hpost, hstep₁ _ fun acts => by rw [doInvoke_state]; exact hsteps⟩
theorem vx_callVW (X : Stand p l e R s m args below meth c T locs cells slots) (hexec : p.tables.exec = Jvm.exec) {own C : String} {index : Nat} {y : MethodName} {bytes : ByteArray} {maxL : Nat} {ret : Option FieldType} {hh : List (Nat × Nat × Nat × Nat)}
    (hown : s.vm.findClass own = some m.cls) (hlink : (Cond.methodLink own index y).before args s = true) (hinst : (Cond.instanceMethod y).before args s = true) (hsel : (Cond.selects C y y).before args s = true)
    (hcode : (Cond.codeWith y bytes maxL ret hh).before args s = true) (hy : y.cls ≠ "java/lang/invoke/MethodHandle" ∧ y.cls ≠ "java/lang/invoke/VarHandle")
    {W9 : Nat} {Pre : Pt → Array Value → Prop} {Post : Pt → Array Value → Option Value → Pt → Prop} (hK : Back l R p e below s args y 3 W9 Pre Post)
    {b : Addr} {cellB : Cell} (hcell : T.heap[b]? = some cellB) (hobj : cellB.vm.isStatics = false) (hcls : s.vm.findClass C = some cellB.cls)
    {g : JFrame} (hg : g.method = m) (hsize : g.locals.size = c.maxLocals) {argsL rest : List Value} (hlen : ∀ sig, parseMethodDescriptor y.desc = some sig → argsL.length = sig.parameters.length)
    (hstack : g.stack = argsL.reverse ++ .ref b :: rest) (hW : 2 * g.monitorRoom + (rest.map fun v => v.category).sum ≤ W9) (hdg : decode c.code g.pc = .ok (.invokevirtual index, 3))
    (hpre : ∀ vm₁, s.WarmedH vm₁ → Pre ⟨T.setVm vm₁, locs, cells, slots⟩ (Value.ref b :: argsL).toArray) :
    ∃ (v : Option Value) (vm₁ : Vm) (B : Pt), s.WarmedH vm₁ ∧ Stand p l e R s m args below meth c B.U B.locs B.cells B.slots ∧ Post ⟨T.setVm vm₁, locs, cells, slots⟩ (Value.ref b :: argsL).toArray v B ∧
      ∀ target, Steps p.tables e below (B.U.setTop { g with pc := g.pc + 3, stack := v.toList ++ rest }) target → Steps p.tables e below (T.setTop g) target := by
  obtain ⟨mk, methM, hnamed, hmethM, hstM, habM⟩ := Cond.instanceMethod_spec hinst
  obtain ⟨m8, methM', cM, hn8, hmethM', -, -, -, -, -, -, hsigM⟩ := Cond.codeWith_spec hcode
  cases Option.some.inj (hn8.symm.trans hnamed)
  cases hmethM.symm.trans hmethM'
  obtain ⟨c2, r2, m2, q1, q2, q3, q4, kP, hkP, hkPi⟩ := Cond.selects_spec hsel
  cases hcls.symm.trans q1
  cases (State.methodFound?_of_named hnamed hy).symm.trans q2
  cases hnamed.symm.trans q3
  have hselP : selectMethod e.platform s.vm cellB.cls mk = .method mk := by rw [Launch.admits_selectMethod X.admits]; exact q4
  obtain ⟨vm₁, X₁, hstep₁⟩ := X.invokevirtual hexec hown hlink hnamed hmethM hstM hkP hkPi hy (a := b) (cell := cellB) hcell
    (fun z h => by rw [h] at hobj; cases hobj) hselP hmethM habM hkP hkPi (g := g) hg (argsL := argsL) (rest := rest) (hlen _ hsigM) hstack hdg
  obtain ⟨v, B, X', hpost, hsteps⟩ := hK m meth c ⟨T.setVm vm₁, locs, cells, slots⟩ { g with stack := rest } (.invokevirtual index) mk (Value.ref b :: argsL).toArray X₁ hg hsize hdg hW (X₁.named hnamed) (hpre vm₁ X₁.warmed)
  exact ⟨v, vm₁, B, X₁.warmed, X', hpost, fun target h => hstep₁ _ fun acts => by rw [doInvoke_state]; exact hsteps.trans h⟩
abbrev vx_CVW (R : Room) (s : State) (args : Array Value) (own C : String) (index : Nat) (y : MethodName) (bytes : ByteArray) (maxL : Nat) (ret : Option FieldType) (hh : List (Nat × Nat × Nat × Nat)) (ws : List Cond) (rm : Room) (mc ms n : Nat) : Prop :=
  (rm.cells = mc ∧ rm.slots = ms ∧ rm.frames + 1 ≤ R.frames ∧ 8 + (maxL + 11) + rm.locals ≤ R.locals ∧ (∀ w ∈ ws, ∀ (a' : Array Value) (U : State), s.WarmedH U.vm → w.before a' U = true) ∧ Cond.codeWith y bytes maxL ret hh ∈ ws) ∧
  (Cond.codeWith y bytes maxL ret hh).before args s = true ∧ (Cond.initialized y.cls).before args s = true ∧ (y.cls ≠ "java/lang/invoke/MethodHandle" ∧ y.cls ≠ "java/lang/invoke/VarHandle") ∧
  (∀ sig, parseMethodDescriptor y.desc = some sig → n = sig.parameters.length) ∧ (Cond.methodLink own index y).before args s = true ∧ (Cond.instanceMethod y).before args s = true ∧ (Cond.selects C y y).before args s = true
theorem vx_cwVW {own C : String} {index maxL mc ms : Nat} {y : MethodName} {bytes : ByteArray} {ret : Option FieldType} {hh : List (Nat × Nat × Nat × Nat)} {Ts ws ws' : List Cond} {rm : Room} (n : Nat) (ht : ∀ w ∈ Ts, w.before args s = true) (hT : GoodIn Ts (wsV own index C y ws)) (hw : ws = Cond.codeWith y bytes maxL ret hh :: ws') (hrc : rm.cells = mc) (hrs : rm.slots = ms)
    (hd : y.cls = C ∧ y.cls ≠ "java/lang/invoke/MethodHandle" ∧ y.cls ≠ "java/lang/invoke/VarHandle" ∧ (parseMethodDescriptor y.desc).map (fun d => d.parameters.length) = some n) (hR : rm.frames + 1 ≤ R.frames ∧ 8 + (maxL + 11) + rm.locals ≤ R.locals) :
    vx_CVW R s args own C index y bytes maxL ret hh ws rm mc ms n := by
  obtain ⟨hC, hd⟩ := hd
  subst hC
  have ok : ∀ w ∈ wsV own index y.cls y ws, w.before args s = true := fun w h => ht w (hT w h).1
  have hG : GoodIn Ts ws := fun w h => hT w (by unfold wsV; exact List.mem_append_right _ h)
  have hc : Cond.codeWith y bytes maxL ret hh ∈ ws := by rw [hw]; exact List.mem_cons_self
  refine ⟨⟨hrc, hrs, hR.1, hR.2, pay_in ht hG, hc⟩, ht _ (hG _ hc).1, ok _ (by simp [wsV]), ⟨hd.1, hd.2.1⟩, fun sig h => ?_, ok _ (by simp [wsV]), ok _ (by simp [wsV]), ok _ (by simp [wsV])⟩
  have h2 := hd.2.2
  rw [h] at h2
  exact (Option.some.inj h2).symm
theorem vx_runVW {y : MethodName} {bytes cc : ByteArray} {maxL nL mc ms n index : Nat} {ret : Option FieldType} {hh : List (Nat × Nat × Nat × Nat)} {ws : List Cond} {rm : Room} {Pc : Array Value → State → Prop} {Qc : Array Value → State → Outcome → State → Prop} {free : Addr → Prop} {Ts : List Cond} {own C : String} {b : Addr} {As rest : List Value} {g : JFrame}
    (S : CallFix p m c cc nL s args Ts own) (hM : Met l y ws rm Pc Qc mc ms free) (cw : vx_CVW R s args own C index y bytes maxL ret hh ws rm mc ms n) (hp : PreV s H C b Pc As)
    (hg : g.method = m) (hn : As.length = n) (hsize : g.locals.size = nL) (hstack : g.stack = As.reverse ++ .ref b :: rest) (hW : 2 * g.monitorRoom + (rest.map fun v => v.category).sum ≤ 8) (hdg : decode cc g.pc = .ok (.invokevirtual index, 3)) (hf : cells + mc ≤ R.cells ∧ slots + ms ≤ R.slots) :
    va_Run p l e R s m args below meth c H locs cells slots mc ms g rest (Qc (Value.ref b :: As).toArray) free := by
  obtain ⟨⟨hrc, hrs, hfr, hlo, hws, hcw⟩, hcode, hini, hy, hlen, hl, hin, hse⟩ := cw
  have hK : Back l R p e below s args y 3 8 (PreOf R mc ms Pc) (PostOf Qc mc ms free) := va_backW (hh := hh) (bytes := bytes) (maxL := maxL) (ret := ret) hM hp.1 hrc hrs hfr hlo hws hcw (fun a' U hW => word_at hW (Or.inl (by first | rfl | simp [Cond.onTables, Cond.keeps, Cond.steady])) hini)
  obtain ⟨hx, hb, hml, ho, -⟩ := S
  obtain ⟨-, ⟨cellB, hcB, hoB, hclB⟩, hPc⟩ := hp
  intro T hT X
  obtain ⟨v, vm₁, ⟨U', l2, c2, s2⟩, hW₁, X', ⟨g', mk, t, L, e1, e2, hq, h1, hL, h2, h3⟩, st⟩ := vx_callVW X hx (C := C) (hh := hh) (bytes := bytes) (maxL := maxL) (ret := ret) ho hl hin hse hcode hy hK (by rw [hT]; exact hcB) hoB hclB hg (hsize.trans hml.symm) (argsL := As) (rest := rest) (fun sig h => hn.trans (hlen sig h)) hstack hW (by rw [hb]; exact hdg)
    (fun vm₁ hW₁ => ⟨hf.1, hf.2, hPc (T.setVm vm₁) hT hW₁⟩)
  dsimp only [Pt.U, Pt.locs, Pt.cells, Pt.slots] at X' e1 e2 h1 h2 h3 st
  subst h1; subst h2; subst h3
  exact ⟨v, (T.setVm vm₁).calling g' mk (Value.ref b :: As).toArray, t, U', L, hT, X', hL, e1, e2, hq, st⟩
section
variable {y : MethodName} {bytes cc : ByteArray} {maxL nL mc ms n index : Nat} {ret : Option FieldType} {ws : List Cond} {rm : Room} {Pc : Array Value → State → Prop} {Qc : Array Value → State → Outcome → State → Prop} {XC : String → State → State → Prop} {free : Addr → Prop} {Ts : List Cond} {own C : String} {b : Addr} {As rest : List Value} {g : JFrame}
theorem vx_runVX {hh : List (Nat × Nat × Nat × Nat)} (S : CallFix p m c cc nL s args Ts own) (hM : vx_Met l y ws rm Pc Qc XC mc ms free) (cw : vx_CVW R s args own C index y bytes maxL ret hh ws rm mc ms n) (hp : PreV s H C b Pc As)
    (hg : g.method = m) (hn : As.length = n) (hsize : g.locals.size = nL) (hstack : g.stack = As.reverse ++ .ref b :: rest) (hW : 2 * g.monitorRoom + (rest.map fun v => v.category).sum ≤ 8) (hdg : decode cc g.pc = .ok (.invokevirtual index, 3)) (hf : cells + mc ≤ R.cells ∧ slots + ms ≤ R.slots) :
    vx_Run p l e R s m args below meth c H locs cells slots mc ms g rest (Qc (Value.ref b :: As).toArray) XC free := by
  obtain ⟨⟨hrc, hrs, hfr, hlo, hws, hcw⟩, hcode, hini, hy, hlen, hl, hin, hse⟩ := cw
  have hK : vx_Back l R p e below s args y 3 8 (PreOf R mc ms Pc) (PostOf Qc mc ms free) (vx_Post XC mc ms free) := vx_backW (hh := hh) (bytes := bytes) (maxL := maxL) (ret := ret) hM hp.1 hrc hrs hfr hlo hws hcw (fun a' U hW => word_at hW (Or.inl (by first | rfl | simp [Cond.onTables, Cond.keeps, Cond.steady])) hini)
  obtain ⟨hx, hb, hml, ho, -⟩ := S
  obtain ⟨-, ⟨cellB, hcB, hoB, hclB⟩, hPc⟩ := hp
  intro T hT X
  rcases vx_callVX X hx (C := C) (hh := hh) (bytes := bytes) (maxL := maxL) (ret := ret) ho hl hin hse hcode hy hK (by rw [hT]; exact hcB) hoB hclB hg (hsize.trans hml.symm) (argsL := As) (rest := rest) (fun sig h => hn.trans (hlen sig h)) hstack hW (by rw [hb]; exact hdg)
    (fun vm₁ hW₁ => ⟨hf.1, hf.2, hPc (T.setVm vm₁) hT hW₁⟩) with ⟨v, vm₁, ⟨U', l2, c2, s2⟩, hW₁, X', ⟨g', mk, t, L, e1, e2, hq, h1, hL, h2, h3⟩, st⟩ | ⟨q, vm₁, ⟨U', l2, c2, s2⟩, hW₁, X', ⟨g', mk, t, L, E, ce, e1, e2, hq, hce, hcv, hcl, h1, hL, h2, h3⟩, st⟩
  · dsimp only [Pt.U, Pt.locs, Pt.cells, Pt.slots] at X' e1 e2 h1 h2 h3 st
    subst h1; subst h2; subst h3
    exact Or.inl ⟨v, (T.setVm vm₁).calling g' mk (Value.ref b :: As).toArray, t, U', L, hT, X', hL, e1, e2, hq, st⟩
  · dsimp only [Pt.U, Pt.locs, Pt.cells, Pt.slots] at X' e1 e2 h1 h2 h3 st hcl
    subst h1; subst h2; subst h3
    exact Or.inr ⟨q, (T.setVm vm₁).calling g' mk (Value.ref b :: As).toArray, t, U', L, E, ce, hT, X', hL, e1, e2, hq, hce, hcv, vx_cls hW₁ hcl, st⟩
theorem vx_runSX {hh : List (Nat × Nat × Nat × Nat)} (S : CallFix p m c cc nL s args Ts own) (hM : vx_Met l y ws rm Pc Qc XC mc ms free) (cw : vx_CSW R s args own index y bytes maxL ret hh ws rm mc ms n) (hp : PreS s H Pc As)
    (hg : g.method = m) (hn : As.length = n) (hsize : g.locals.size = nL) (hstack : g.stack = As.reverse ++ rest) (hW : 2 * g.monitorRoom + (rest.map fun v => v.category).sum ≤ 8) (hdg : decode cc g.pc = .ok (.invokestatic index, 3)) (hf : cells + mc ≤ R.cells ∧ slots + ms ≤ R.slots) :
    vx_Run p l e R s m args below meth c H locs cells slots mc ms g rest (Qc As.toArray) XC free := by
  obtain ⟨⟨hrc, hrs, hfr, hlo, hws, hcw⟩, hcode, hini, hy, hlen, hl, hstt⟩ := cw
  have hK : vx_Back l R p e below s args y 3 8 (PreOf R mc ms Pc) (PostOf Qc mc ms free) (vx_Post XC mc ms free) := vx_backW (hh := hh) (bytes := bytes) (maxL := maxL) (ret := ret) hM hp.1 hrc hrs hfr hlo hws hcw (fun a' U hW => word_at hW (Or.inl (by first | rfl | simp [Cond.onTables, Cond.keeps, Cond.steady])) hini)
  obtain ⟨hx, hb, hml, ho, -⟩ := S
  intro T hT X
  rcases vx_callSX X hx (hh := hh) (bytes := bytes) (maxL := maxL) (ret := ret) ho hl hstt hini hcode hy hK hg (hsize.trans hml.symm) (argsL := As) (rest := rest) (fun sig h => hn.trans (hlen sig h)) hstack hW (by rw [hb]; exact hdg)
    (fun vm₁ hW₁ => ⟨hf.1, hf.2, hp.2 (T.setVm vm₁) hT hW₁⟩) with ⟨v, vm₁, ⟨U', l2, c2, s2⟩, hW₁, X', ⟨g', mk, t, L, e1, e2, hq, h1, hL, h2, h3⟩, st⟩ | ⟨q, vm₁, ⟨U', l2, c2, s2⟩, hW₁, X', ⟨g', mk, t, L, E, ce, e1, e2, hq, hce, hcv, hcl, h1, hL, h2, h3⟩, st⟩
  · dsimp only [Pt.U, Pt.locs, Pt.cells, Pt.slots] at X' e1 e2 h1 h2 h3 st
    subst h1; subst h2; subst h3
    exact Or.inl ⟨v, (T.setVm vm₁).calling g' mk As.toArray, t, U', L, hT, X', hL, e1, e2, hq, st⟩
  · dsimp only [Pt.U, Pt.locs, Pt.cells, Pt.slots] at X' e1 e2 h1 h2 h3 st hcl
    subst h1; subst h2; subst h3
    exact Or.inr ⟨q, (T.setVm vm₁).calling g' mk As.toArray, t, U', L, E, ce, hT, X', hL, e1, e2, hq, hce, hcv, vx_cls hW₁ hcl, st⟩
end
end VXH
theorem vx_ofWH {l : Launch} {y : MethodName} {ws ws' : List Cond} {rm : Room} {Pc : Array Value → State → Prop} {Qc : Array Value → State → Outcome → State → Prop} {XC : String → State → State → Prop} {mc ms : Nat} {free : Addr → Prop} {cc : ByteArray} {maxL : Nat} {ret : Option FieldType} {hh : List (Nat × Nat × Nat × Nat)}
    (hy : plainName y.cls = true) (hw : ws = Cond.codeWith y cc maxL ret hh :: ws')
    (body : ∀ p e s m args below meth c s₁, BodyLoose p l y (headSpec ws rm) cc maxL ret e s m args below meth c s₁ → c.maxLocals = maxL → Pc args s →
      W p l e (headSpec ws rm).room s m args below meth c s.heap [] 0 0 (vx_MQ below Qc XC args s mc ms free) (entryFrame m args maxL)) : vx_Met l y ws rm Pc Qc XC mc ms free := by
  refine MetFree.of_bodyS (code := cc) (maxLocals := maxL) (ret := ret) hy ?_ ?_
  · intro args s m h hn
    obtain ⟨m9, meth, c, hn9, h1, h2, h3, h4, -, h5, h6, -⟩ := Cond.codeWith_spec (atoms_spec (ws := ws) h _ (by rw [hw]; exact List.mem_cons_self))
    cases hn.symm.trans hn9
    exact ⟨meth, c, h1, h2, h3, h4, h5, h6⟩
  · intro p e s m args below meth c s₁ B hml hP _
    have hh0 : s₁.heap = s.heap := by rw [B.state]; rfl
    obtain ⟨t, a1, o, b1, b2, b3⟩ := body p e s m args below meth c s₁ B hml hP s₁ hh0 (Stand.of_body B)
    exact ⟨t, o, a1, b1, b2, b3⟩
/-! ===== END ===== -/
end
section
/-! names: the good words of the tables, by chunks; classes; methods; decode rows (all by program) -/
def TB_0 : List Cond := [(Jvm.Cond.selects "StableHeap" ⟨"StableHeap", "wordsInLog", "()I"⟩ ⟨"StableHeap", "wordsInLog", "()I"⟩), (Jvm.Cond.selects "StableHeap" ⟨"StableHeap", "end", "(LStableHeap$Transaction;Z)I"⟩ ⟨"StableHeap", "end", "(LStableHeap$Transaction;Z)I"⟩), (Jvm.Cond.selects "StableHeap" ⟨"StableHeap", "findHeld", "()V"⟩ ⟨"StableHeap", "findHeld", "()V"⟩), (Jvm.Cond.selects "StableHeap" ⟨"StableHeap", "holdTargets", "(LStableHeap$Lockable;)V"⟩ ⟨"StableHeap", "holdTargets", "(LStableHeap$Lockable;)V"⟩), (Jvm.Cond.selects "StableHeap" ⟨"StableHeap", "hold", "(LStableHeap$Lockable;)V"⟩ ⟨"StableHeap", "hold", "(LStableHeap$Lockable;)V"⟩), (Jvm.Cond.selects "StableHeap" ⟨"StableHeap", "flip", "()V"⟩ ⟨"StableHeap", "flip", "()V"⟩), (Jvm.Cond.selects "StableHeap" ⟨"StableHeap", "unusedTransaction", "()LStableHeap$Transaction;"⟩ ⟨"StableHeap", "unusedTransaction", "()LStableHeap$Transaction;"⟩), (Jvm.Cond.selects "java/lang/Throwable" ⟨"java/lang/Throwable", "fillInStackTrace", "(I)Ljava/lang/Throwable;"⟩ ⟨"java/lang/Throwable", "fillInStackTrace", "(I)Ljava/lang/Throwable;"⟩), (Jvm.Cond.selects "StableHeap" ⟨"StableHeap", "writeRecord", "(LStableHeap$Transaction;I)V"⟩ ⟨"StableHeap", "writeRecord", "(LStableHeap$Transaction;I)V"⟩), (Jvm.Cond.selects "StableHeap" ⟨"StableHeap", "activeTransaction", "(I)LStableHeap$Transaction;"⟩ ⟨"StableHeap", "activeTransaction", "(I)LStableHeap$Transaction;"⟩), (Jvm.Cond.selects "StableHeap" ⟨"StableHeap", "objectWith", "(I)LStableHeap$Lockable;"⟩ ⟨"StableHeap", "objectWith", "(I)LStableHeap$Lockable;"⟩), (Jvm.Cond.selects "StableHeap" ⟨"StableHeap", "findObject", "(I)LStableHeap$Lockable;"⟩ ⟨"StableHeap", "findObject", "(I)LStableHeap$Lockable;"⟩), (Jvm.Cond.selects "StableHeap$Place" ⟨"StableHeap$Place", "rememberFormer", "()V"⟩ ⟨"StableHeap$Place", "rememberFormer", "()V"⟩), (Jvm.Cond.selects "StableHeap" ⟨"StableHeap", "refer", "(LStableHeap$Transaction;LStableHeap$Lockable;LStableHeap$Place;I)V"⟩ ⟨"StableHeap", "refer", "(LStableHeap$Transaction;LStableHeap$Lockable;LStableHeap$Place;I)V"⟩), (Jvm.Cond.selects "StableHeap" ⟨"StableHeap", "rootAt", "(I)LStableHeap$Lockable;"⟩ ⟨"StableHeap", "rootAt", "(I)LStableHeap$Lockable;"⟩), (Jvm.Cond.selects "StableHeap" ⟨"StableHeap", "readField", "(III)LStableHeap$Place;"⟩ ⟨"StableHeap", "readField", "(III)LStableHeap$Place;"⟩), (Jvm.Cond.selects "StableHeap" ⟨"StableHeap", "activeTransactions", "()I"⟩ ⟨"StableHeap", "activeTransactions", "()I"⟩), (Jvm.Cond.selects "StableHeapModel" ⟨"StableHeapModel", "actives", "()I"⟩ ⟨"StableHeapModel", "actives", "()I"⟩), (Jvm.Cond.selects "StableHeapModel" ⟨"StableHeapModel", "raise", "(I)I"⟩ ⟨"StableHeapModel", "raise", "(I)I"⟩), (Jvm.Cond.selects "StableHeapModel" ⟨"StableHeapModel", "log", "()I"⟩ ⟨"StableHeapModel", "log", "()I"⟩), (Jvm.Cond.selects "StableHeapModel" ⟨"StableHeapModel", "place", "(I)I"⟩ ⟨"StableHeapModel", "place", "(I)I"⟩), (Jvm.Cond.selects "StableHeapModel" ⟨"StableHeapModel", "cell", "(III)I"⟩ ⟨"StableHeapModel", "cell", "(III)I"⟩), (Jvm.Cond.selects "StableHeapModel" ⟨"StableHeapModel", "row", "(I)I"⟩ ⟨"StableHeapModel", "row", "(I)I"⟩), (Jvm.Cond.selects "StableHeapModel" ⟨"StableHeapModel", "set", "(IIZI)I"⟩ ⟨"StableHeapModel", "set", "(IIZI)I"⟩), (Jvm.Cond.selects "StableHeapModel" ⟨"StableHeapModel", "replaced", "(II)Z"⟩ ⟨"StableHeapModel", "replaced", "(II)Z"⟩), (Jvm.Cond.selects "StableHeapModel" ⟨"StableHeapModel", "lockCell", "(II)V"⟩ ⟨"StableHeapModel", "lockCell", "(II)V"⟩), (Jvm.Cond.selects "StableHeapModel" ⟨"StableHeapModel", "assign", "(IZI)V"⟩ ⟨"StableHeapModel", "assign", "(IZI)V"⟩), (Jvm.Cond.selects "StableHeapModel" ⟨"StableHeapModel", "refer", "(III)I"⟩ ⟨"StableHeapModel", "refer", "(III)I"⟩), (Jvm.Cond.selects "StableHeapModel" ⟨"StableHeapModel", "rootCell", "(II)I"⟩ ⟨"StableHeapModel", "rootCell", "(II)I"⟩), (Jvm.Cond.selects "StableHeapModel" ⟨"StableHeapModel", "get", "(IIIZ)I"⟩ ⟨"StableHeapModel", "get", "(IIIZ)I"⟩), (Jvm.Cond.selects "StableHeapModel" ⟨"StableHeapModel", "end", "(IZ)I"⟩ ⟨"StableHeapModel", "end", "(IZ)I"⟩), (Jvm.Cond.selects "StableHeapModel" ⟨"StableHeapModel", "forget", "(IZ)V"⟩ ⟨"StableHeapModel", "forget", "(IZ)V"⟩), (Jvm.Cond.selects "StableHeapModel" ⟨"StableHeapModel", "unlock", "(I)I"⟩ ⟨"StableHeapModel", "unlock", "(I)I"⟩), (Jvm.Cond.selects "StableHeapModel" ⟨"StableHeapModel", "markHeld", "()I"⟩ ⟨"StableHeapModel", "markHeld", "()I"⟩), (Jvm.Cond.selects "StableHeapModel" ⟨"StableHeapModel", "hold", "(I)V"⟩ ⟨"StableHeapModel", "hold", "(I)V"⟩), (Jvm.Cond.initialized "StableHeapLaw"), (Jvm.Cond.initialized "StableHeap"), (Jvm.Cond.initialized "StableHeap$Lockable"), (Jvm.Cond.initialized "StableHeap$Place"), (Jvm.Cond.initialized "StableHeap$Transaction"), (Jvm.Cond.initialized "StableHeapModel"), (Jvm.Cond.initialized "java/lang/Throwable"), (Jvm.Cond.initialized "java/lang/Exception"), (Jvm.Cond.initialized "java/lang/RuntimeException"), (Jvm.Cond.initialized "java/lang/IllegalStateException"), (Jvm.Cond.initialized "java/lang/UnsupportedOperationException"), (Jvm.Cond.initialized "java/util/NoSuchElementException"), (Jvm.Cond.initialized "java/lang/IllegalArgumentException"), (Jvm.Cond.initialized "java/lang/IndexOutOfBoundsException"), (Jvm.Cond.initialized "java/lang/ArithmeticException")]
def TB_1 : List Cond := [(Jvm.Cond.classLink "StableHeapLaw" (8 : Nat) "StableHeap"), (Jvm.Cond.instantiable "StableHeap" (11 : Nat)), (Jvm.Cond.methodLink "StableHeapLaw" (65 : Nat) ({ cls := "StableHeap", name := "<init>", desc := "()V" } : Jvm.MethodName)), (Jvm.Cond.instanceMethod ({ cls := "StableHeap", name := "<init>", desc := "()V" } : Jvm.MethodName)), (Jvm.Cond.code ({ cls := "StableHeap", name := "<init>", desc := "()V" } : Jvm.MethodName) prog_1_method_1_code (2 : Nat) (Option.none : Option Jvm.ClassFile.FieldType)), (Jvm.Cond.methodLink "StableHeap" (1 : Nat) ({ cls := "java/lang/Object", name := "<init>", desc := "()V" } : Jvm.MethodName)), (Jvm.Cond.instanceMethod ({ cls := "java/lang/Object", name := "<init>", desc := "()V" } : Jvm.MethodName)), (Jvm.Cond.code ({ cls := "java/lang/Object", name := "<init>", desc := "()V" } : Jvm.MethodName) object_method_1_code (1 : Nat) (Option.none : Option Jvm.ClassFile.FieldType)), (Jvm.Cond.classLink "StableHeap" (9 : Nat) "StableHeap$Lockable"), (Jvm.Cond.instantiable "StableHeap$Lockable" (4 : Nat)), (Jvm.Cond.methodLink "StableHeap" (15 : Nat) ({ cls := "StableHeap$Lockable", name := "<init>", desc := "(II)V" } : Jvm.MethodName)), (Jvm.Cond.instanceMethod ({ cls := "StableHeap$Lockable", name := "<init>", desc := "(II)V" } : Jvm.MethodName)), (Jvm.Cond.code ({ cls := "StableHeap$Lockable", name := "<init>", desc := "(II)V" } : Jvm.MethodName) prog_2_method_1_code (4 : Nat) (Option.none : Option Jvm.ClassFile.FieldType)), (Jvm.Cond.methodLink "StableHeap$Lockable" (1 : Nat) ({ cls := "java/lang/Object", name := "<init>", desc := "()V" } : Jvm.MethodName)), (Jvm.Cond.classLink "StableHeap$Lockable" (13 : Nat) "StableHeap$Place"), (Jvm.Cond.instantiable "StableHeap$Place" (7 : Nat)), (Jvm.Cond.instanceMethod ({ cls := "StableHeap$Place", name := "<init>", desc := "()V" } : Jvm.MethodName)), (Jvm.Cond.code ({ cls := "StableHeap$Place", name := "<init>", desc := "()V" } : Jvm.MethodName) prog_3_method_1_code (1 : Nat) (Option.none : Option Jvm.ClassFile.FieldType)), (Jvm.Cond.methodLink "StableHeap$Place" (1 : Nat) ({ cls := "java/lang/Object", name := "<init>", desc := "()V" } : Jvm.MethodName)), (Jvm.Cond.fieldLink "StableHeap$Place" (12 : Nat) "StableHeap$Place" "isReference" "Z"), (Jvm.Cond.fieldLink "StableHeap" (111 : Nat) "StableHeap$Place" "isReference" "Z"), (Jvm.Cond.fieldLink "StableHeap$Place" (16 : Nat) "StableHeap$Place" "number" "I"), (Jvm.Cond.fieldLink "StableHeap" (120 : Nat) "StableHeap$Place" "number" "I"), (Jvm.Cond.fieldLink "StableHeap$Place" (20 : Nat) "StableHeap$Place" "target" "LStableHeap$Lockable;"), (Jvm.Cond.fieldLink "StableHeap" (123 : Nat) "StableHeap$Place" "target" "LStableHeap$Lockable;"), (Jvm.Cond.fieldLink "StableHeap$Place" (24 : Nat) "StableHeap$Place" "isSet" "Z"), (Jvm.Cond.fieldLink "StableHeap$Place" (27 : Nat) "StableHeap$Place" "formerIsReference" "Z"), (Jvm.Cond.fieldLink "StableHeap$Place" (30 : Nat) "StableHeap$Place" "formerNumber" "I"), (Jvm.Cond.fieldLink "StableHeap$Place" (33 : Nat) "StableHeap$Place" "formerTarget" "LStableHeap$Lockable;"), (Jvm.Cond.fieldLink "StableHeap" (218 : Nat) "StableHeap$Place" "formerTarget" "LStableHeap$Lockable;"), (Jvm.Cond.lays "StableHeap$Place" "StableHeap$Place" "isReference" "Z"), (Jvm.Cond.soleField "StableHeap$Place" "isReference"), (Jvm.Cond.lays "StableHeap$Place" "StableHeap$Place" "number" "I"), (Jvm.Cond.soleField "StableHeap$Place" "number"), (Jvm.Cond.lays "StableHeap$Place" "StableHeap$Place" "target" "LStableHeap$Lockable;"), (Jvm.Cond.soleField "StableHeap$Place" "target"), (Jvm.Cond.lays "StableHeap$Place" "StableHeap$Place" "isSet" "Z"), (Jvm.Cond.soleField "StableHeap$Place" "isSet"), (Jvm.Cond.lays "StableHeap$Place" "StableHeap$Place" "formerIsReference" "Z"), (Jvm.Cond.soleField "StableHeap$Place" "formerIsReference"), (Jvm.Cond.lays "StableHeap$Place" "StableHeap$Place" "formerNumber" "I"), (Jvm.Cond.soleField "StableHeap$Place" "formerNumber"), (Jvm.Cond.lays "StableHeap$Place" "StableHeap$Place" "formerTarget" "LStableHeap$Lockable;"), (Jvm.Cond.soleField "StableHeap$Place" "formerTarget"), (Jvm.Cond.superclass "StableHeap$Place" "java/lang/Object"), (Jvm.Cond.fieldLink "StableHeap$Lockable" (7 : Nat) "StableHeap$Lockable" "handle" "I"), (Jvm.Cond.fieldLink "StableHeap" (184 : Nat) "StableHeap$Lockable" "handle" "I"), (Jvm.Cond.fieldLink "StableHeap$Lockable" (15 : Nat) "StableHeap$Lockable" "places" "[LStableHeap$Place;"), (Jvm.Cond.fieldLink "StableHeap" (103 : Nat) "StableHeap$Lockable" "places" "[LStableHeap$Place;"), (Jvm.Cond.fieldLink "StableHeap$Lockable" (20 : Nat) "StableHeap$Lockable" "owner" "I")]
def TB_2 : List Cond := [(Jvm.Cond.fieldLink "StableHeap" (71 : Nat) "StableHeap$Lockable" "owner" "I"), (Jvm.Cond.fieldLink "StableHeap" (209 : Nat) "StableHeap$Lockable" "isHeld" "Z"), (Jvm.Cond.laysFinal "StableHeap$Lockable" "StableHeap$Lockable" "handle" "I"), (Jvm.Cond.soleField "StableHeap$Lockable" "handle"), (Jvm.Cond.laysFinal "StableHeap$Lockable" "StableHeap$Lockable" "places" "[LStableHeap$Place;"), (Jvm.Cond.soleField "StableHeap$Lockable" "places"), (Jvm.Cond.lays "StableHeap$Lockable" "StableHeap$Lockable" "owner" "I"), (Jvm.Cond.soleField "StableHeap$Lockable" "owner"), (Jvm.Cond.lays "StableHeap$Lockable" "StableHeap$Lockable" "isHeld" "Z"), (Jvm.Cond.soleField "StableHeap$Lockable" "isHeld"), (Jvm.Cond.superclass "StableHeap$Lockable" "java/lang/Object"), (Jvm.Cond.classLink "StableHeap" (24 : Nat) "StableHeap$Transaction"), (Jvm.Cond.instantiable "StableHeap$Transaction" (2 : Nat)), (Jvm.Cond.instanceMethod ({ cls := "StableHeap$Transaction", name := "<init>", desc := "()V" } : Jvm.MethodName)), (Jvm.Cond.code ({ cls := "StableHeap$Transaction", name := "<init>", desc := "()V" } : Jvm.MethodName) prog_4_method_1_code (1 : Nat) (Option.none : Option Jvm.ClassFile.FieldType)), (Jvm.Cond.methodLink "StableHeap$Transaction" (1 : Nat) ({ cls := "java/lang/Object", name := "<init>", desc := "()V" } : Jvm.MethodName)), (Jvm.Cond.fieldLink "StableHeap$Transaction" (7 : Nat) "StableHeap$Transaction" "number" "I"), (Jvm.Cond.fieldLink "StableHeap" (43 : Nat) "StableHeap$Transaction" "number" "I"), (Jvm.Cond.fieldLink "StableHeap" (134 : Nat) "StableHeap$Transaction" "words" "I"), (Jvm.Cond.lays "StableHeap$Transaction" "StableHeap$Transaction" "number" "I"), (Jvm.Cond.soleField "StableHeap$Transaction" "number"), (Jvm.Cond.lays "StableHeap$Transaction" "StableHeap$Transaction" "words" "I"), (Jvm.Cond.soleField "StableHeap$Transaction" "words"), (Jvm.Cond.superclass "StableHeap$Transaction" "java/lang/Object"), (Jvm.Cond.fieldLink "StableHeap" (11 : Nat) "StableHeap" "roots" "[LStableHeap$Lockable;"), (Jvm.Cond.fieldLink "StableHeap" (18 : Nat) "StableHeap" "objects" "[LStableHeap$Lockable;"), (Jvm.Cond.fieldLink "StableHeap" (21 : Nat) "StableHeap" "held" "[LStableHeap$Lockable;"), (Jvm.Cond.fieldLink "StableHeap" (26 : Nat) "StableHeap" "transactions" "[LStableHeap$Transaction;"), (Jvm.Cond.fieldLink "StableHeap" (60 : Nat) "StableHeap" "objectsThere" "I"), (Jvm.Cond.fieldLink "StableHeap" (150 : Nat) "StableHeap" "objectsHeld" "I"), (Jvm.Cond.fieldLink "StableHeap" (68 : Nat) "StableHeap" "handlesGiven" "I"), (Jvm.Cond.fieldLink "StableHeap" (57 : Nat) "StableHeap" "wordsUsed" "I"), (Jvm.Cond.fieldLink "StableHeap" (131 : Nat) "StableHeap" "wordsOfEnded" "I"), (Jvm.Cond.fieldLink "StableHeap" (39 : Nat) "StableHeap" "transactionsBegun" "I"), (Jvm.Cond.fieldLink "StableHeap" (170 : Nat) "StableHeap" "flips" "I"), (Jvm.Cond.laysFinal "StableHeap" "StableHeap" "roots" "[LStableHeap$Lockable;"), (Jvm.Cond.soleField "StableHeap" "roots"), (Jvm.Cond.laysFinal "StableHeap" "StableHeap" "objects" "[LStableHeap$Lockable;"), (Jvm.Cond.soleField "StableHeap" "objects"), (Jvm.Cond.laysFinal "StableHeap" "StableHeap" "held" "[LStableHeap$Lockable;"), (Jvm.Cond.soleField "StableHeap" "held"), (Jvm.Cond.laysFinal "StableHeap" "StableHeap" "transactions" "[LStableHeap$Transaction;"), (Jvm.Cond.soleField "StableHeap" "transactions"), (Jvm.Cond.lays "StableHeap" "StableHeap" "objectsThere" "I"), (Jvm.Cond.soleField "StableHeap" "objectsThere"), (Jvm.Cond.lays "StableHeap" "StableHeap" "objectsHeld" "I"), (Jvm.Cond.soleField "StableHeap" "objectsHeld"), (Jvm.Cond.lays "StableHeap" "StableHeap" "handlesGiven" "I"), (Jvm.Cond.soleField "StableHeap" "handlesGiven"), (Jvm.Cond.lays "StableHeap" "StableHeap" "wordsUsed" "I")]
def TB_3 : List Cond := [(Jvm.Cond.soleField "StableHeap" "wordsUsed"), (Jvm.Cond.lays "StableHeap" "StableHeap" "wordsOfEnded" "I"), (Jvm.Cond.soleField "StableHeap" "wordsOfEnded"), (Jvm.Cond.lays "StableHeap" "StableHeap" "transactionsBegun" "I"), (Jvm.Cond.soleField "StableHeap" "transactionsBegun"), (Jvm.Cond.lays "StableHeap" "StableHeap" "flips" "I"), (Jvm.Cond.soleField "StableHeap" "flips"), (Jvm.Cond.superclass "StableHeap" "java/lang/Object"), (Jvm.Cond.methodLink "StableHeapLaw" (109 : Nat) ({ cls := "StableHeap", name := "checkpoint", desc := "()I" } : Jvm.MethodName)), (Jvm.Cond.instanceMethod ({ cls := "StableHeap", name := "checkpoint", desc := "()I" } : Jvm.MethodName)), (Jvm.Cond.selects "StableHeap" ({ cls := "StableHeap", name := "checkpoint", desc := "()I" } : Jvm.MethodName) ({ cls := "StableHeap", name := "checkpoint", desc := "()I" } : Jvm.MethodName)), (Jvm.Cond.code ({ cls := "StableHeap", name := "checkpoint", desc := "()I" } : Jvm.MethodName) prog_1_method_12_code (1 : Nat) (Option.some Jvm.ClassFile.FieldType.int)), (Jvm.Cond.methodLink "StableHeap" (140 : Nat) ({ cls := "StableHeap", name := "wordsInLog", desc := "()I" } : Jvm.MethodName)), (Jvm.Cond.instanceMethod ({ cls := "StableHeap", name := "wordsInLog", desc := "()I" } : Jvm.MethodName)), (Jvm.Cond.code ({ cls := "StableHeap", name := "wordsInLog", desc := "()I" } : Jvm.MethodName) prog_1_method_29_code (3 : Nat) (Option.some Jvm.ClassFile.FieldType.int)), (Jvm.Cond.methodLink "StableHeapLaw" (113 : Nat) ({ cls := "StableHeap", name := "crash", desc := "()I" } : Jvm.MethodName)), (Jvm.Cond.instanceMethod ({ cls := "StableHeap", name := "crash", desc := "()I" } : Jvm.MethodName)), (Jvm.Cond.selects "StableHeap" ({ cls := "StableHeap", name := "crash", desc := "()I" } : Jvm.MethodName) ({ cls := "StableHeap", name := "crash", desc := "()I" } : Jvm.MethodName)), (Jvm.Cond.code ({ cls := "StableHeap", name := "crash", desc := "()I" } : Jvm.MethodName) prog_1_method_13_code (3 : Nat) (Option.some Jvm.ClassFile.FieldType.int)), (Jvm.Cond.methodLink "StableHeap" (143 : Nat) ({ cls := "StableHeap$Transaction", name := "isActive", desc := "()Z" } : Jvm.MethodName)), (Jvm.Cond.instanceMethod ({ cls := "StableHeap$Transaction", name := "isActive", desc := "()Z" } : Jvm.MethodName)), (Jvm.Cond.selects "StableHeap$Transaction" ({ cls := "StableHeap$Transaction", name := "isActive", desc := "()Z" } : Jvm.MethodName) ({ cls := "StableHeap$Transaction", name := "isActive", desc := "()Z" } : Jvm.MethodName)), (Jvm.Cond.code ({ cls := "StableHeap$Transaction", name := "isActive", desc := "()Z" } : Jvm.MethodName) prog_4_method_2_code (1 : Nat) (Option.some Jvm.ClassFile.FieldType.boolean)), (Jvm.Cond.methodLink "StableHeap" (136 : Nat) ({ cls := "StableHeap", name := "end", desc := "(LStableHeap$Transaction;Z)I" } : Jvm.MethodName)), (Jvm.Cond.instanceMethod ({ cls := "StableHeap", name := "end", desc := "(LStableHeap$Transaction;Z)I" } : Jvm.MethodName)), (Jvm.Cond.code ({ cls := "StableHeap", name := "end", desc := "(LStableHeap$Transaction;Z)I" } : Jvm.MethodName) prog_1_method_31_code (5 : Nat) (Option.some Jvm.ClassFile.FieldType.int)), (Jvm.Cond.methodLink "StableHeap" (205 : Nat) ({ cls := "StableHeap$Lockable", name := "unlock", desc := "(IZ)I" } : Jvm.MethodName)), (Jvm.Cond.instanceMethod ({ cls := "StableHeap$Lockable", name := "unlock", desc := "(IZ)I" } : Jvm.MethodName)), (Jvm.Cond.selects "StableHeap$Lockable" ({ cls := "StableHeap$Lockable", name := "unlock", desc := "(IZ)I" } : Jvm.MethodName) ({ cls := "StableHeap$Lockable", name := "unlock", desc := "(IZ)I" } : Jvm.MethodName)), (Jvm.Cond.code ({ cls := "StableHeap$Lockable", name := "unlock", desc := "(IZ)I" } : Jvm.MethodName) prog_2_method_3_code (4 : Nat) (Option.some Jvm.ClassFile.FieldType.int)), (Jvm.Cond.methodLink "StableHeap$Lockable" (23 : Nat) ({ cls := "StableHeap$Place", name := "takeBack", desc := "()V" } : Jvm.MethodName)), (Jvm.Cond.instanceMethod ({ cls := "StableHeap$Place", name := "takeBack", desc := "()V" } : Jvm.MethodName)), (Jvm.Cond.selects "StableHeap$Place" ({ cls := "StableHeap$Place", name := "takeBack", desc := "()V" } : Jvm.MethodName) ({ cls := "StableHeap$Place", name := "takeBack", desc := "()V" } : Jvm.MethodName)), (Jvm.Cond.code ({ cls := "StableHeap$Place", name := "takeBack", desc := "()V" } : Jvm.MethodName) prog_3_method_4_code (1 : Nat) (Option.none : Option Jvm.ClassFile.FieldType)), (Jvm.Cond.methodLink "StableHeap$Lockable" (26 : Nat) ({ cls := "StableHeap$Place", name := "forgetFormer", desc := "()V" } : Jvm.MethodName)), (Jvm.Cond.instanceMethod ({ cls := "StableHeap$Place", name := "forgetFormer", desc := "()V" } : Jvm.MethodName)), (Jvm.Cond.selects "StableHeap$Place" ({ cls := "StableHeap$Place", name := "forgetFormer", desc := "()V" } : Jvm.MethodName) ({ cls := "StableHeap$Place", name := "forgetFormer", desc := "()V" } : Jvm.MethodName)), (Jvm.Cond.code ({ cls := "StableHeap$Place", name := "forgetFormer", desc := "()V" } : Jvm.MethodName) prog_3_method_5_code (1 : Nat) (Option.none : Option Jvm.ClassFile.FieldType)), (Jvm.Cond.methodLink "StableHeapLaw" (117 : Nat) ({ cls := "StableHeap", name := "collect", desc := "(I)I" } : Jvm.MethodName)), (Jvm.Cond.instanceMethod ({ cls := "StableHeap", name := "collect", desc := "(I)I" } : Jvm.MethodName)), (Jvm.Cond.selects "StableHeap" ({ cls := "StableHeap", name := "collect", desc := "(I)I" } : Jvm.MethodName) ({ cls := "StableHeap", name := "collect", desc := "(I)I" } : Jvm.MethodName)), (Jvm.Cond.code ({ cls := "StableHeap", name := "collect", desc := "(I)I" } : Jvm.MethodName) prog_1_method_14_code (3 : Nat) (Option.some Jvm.ClassFile.FieldType.int)), (Jvm.Cond.methodLink "StableHeap" (147 : Nat) ({ cls := "StableHeap", name := "findHeld", desc := "()V" } : Jvm.MethodName)), (Jvm.Cond.instanceMethod ({ cls := "StableHeap", name := "findHeld", desc := "()V" } : Jvm.MethodName)), (Jvm.Cond.code ({ cls := "StableHeap", name := "findHeld", desc := "()V" } : Jvm.MethodName) prog_1_method_32_code (2 : Nat) (Option.none : Option Jvm.ClassFile.FieldType)), (Jvm.Cond.methodLink "StableHeap" (212 : Nat) ({ cls := "StableHeap", name := "holdTargets", desc := "(LStableHeap$Lockable;)V" } : Jvm.MethodName)), (Jvm.Cond.instanceMethod ({ cls := "StableHeap", name := "holdTargets", desc := "(LStableHeap$Lockable;)V" } : Jvm.MethodName)), (Jvm.Cond.code ({ cls := "StableHeap", name := "holdTargets", desc := "(LStableHeap$Lockable;)V" } : Jvm.MethodName) prog_1_method_33_code (3 : Nat) (Option.none : Option Jvm.ClassFile.FieldType)), (Jvm.Cond.methodLink "StableHeap" (215 : Nat) ({ cls := "StableHeap", name := "hold", desc := "(LStableHeap$Lockable;)V" } : Jvm.MethodName)), (Jvm.Cond.instanceMethod ({ cls := "StableHeap", name := "hold", desc := "(LStableHeap$Lockable;)V" } : Jvm.MethodName))]
def TB_4 : List Cond := [(Jvm.Cond.code ({ cls := "StableHeap", name := "hold", desc := "(LStableHeap$Lockable;)V" } : Jvm.MethodName) prog_1_method_34_code (2 : Nat) (Option.none : Option Jvm.ClassFile.FieldType)), (Jvm.Cond.methodLink "StableHeap" (153 : Nat) ({ cls := "StableHeap", name := "crash", desc := "()I" } : Jvm.MethodName)), (Jvm.Cond.methodLink "StableHeap" (156 : Nat) ({ cls := "StableHeap", name := "flip", desc := "()V" } : Jvm.MethodName)), (Jvm.Cond.instanceMethod ({ cls := "StableHeap", name := "flip", desc := "()V" } : Jvm.MethodName)), (Jvm.Cond.code ({ cls := "StableHeap", name := "flip", desc := "()V" } : Jvm.MethodName) prog_1_method_35_code (3 : Nat) (Option.none : Option Jvm.ClassFile.FieldType)), (Jvm.Cond.methodLink "StableHeap" (74 : Nat) ({ cls := "StableHeap$Lockable", name := "words", desc := "()I" } : Jvm.MethodName)), (Jvm.Cond.instanceMethod ({ cls := "StableHeap$Lockable", name := "words", desc := "()I" } : Jvm.MethodName)), (Jvm.Cond.selects "StableHeap$Lockable" ({ cls := "StableHeap$Lockable", name := "words", desc := "()I" } : Jvm.MethodName) ({ cls := "StableHeap$Lockable", name := "words", desc := "()I" } : Jvm.MethodName)), (Jvm.Cond.code ({ cls := "StableHeap$Lockable", name := "words", desc := "()I" } : Jvm.MethodName) prog_2_method_2_code (1 : Nat) (Option.some Jvm.ClassFile.FieldType.int)), (Jvm.Cond.methodLink "StableHeap" (159 : Nat) ({ cls := "StableHeap", name := "checkpoint", desc := "()I" } : Jvm.MethodName)), (Jvm.Cond.methodLink "StableHeapLaw" (69 : Nat) ({ cls := "StableHeapLaw", name := "begin", desc := "(LStableHeap;[J)I" } : Jvm.MethodName)), (Jvm.Cond.static ({ cls := "StableHeapLaw", name := "begin", desc := "(LStableHeap;[J)I" } : Jvm.MethodName)), (Jvm.Cond.codeWith ({ cls := "StableHeapLaw", name := "begin", desc := "(LStableHeap;[J)I" } : Jvm.MethodName) method_3_code (3 : Nat) (Option.some Jvm.ClassFile.FieldType.int) [((0 : Nat), (8 : Nat), (11 : Nat), (13 : Nat)), ((0 : Nat), (8 : Nat), (14 : Nat), (15 : Nat))]), (Jvm.Cond.classLink "StableHeapLaw" (13 : Nat) "java/lang/IllegalStateException"), (Jvm.Cond.classLink "StableHeapLaw" (15 : Nat) "java/lang/UnsupportedOperationException"), (Jvm.Cond.methodLink "StableHeapLaw" (7 : Nat) ({ cls := "StableHeap", name := "begin", desc := "()I" } : Jvm.MethodName)), (Jvm.Cond.instanceMethod ({ cls := "StableHeap", name := "begin", desc := "()I" } : Jvm.MethodName)), (Jvm.Cond.selects "StableHeap" ({ cls := "StableHeap", name := "begin", desc := "()I" } : Jvm.MethodName) ({ cls := "StableHeap", name := "begin", desc := "()I" } : Jvm.MethodName)), (Jvm.Cond.code ({ cls := "StableHeap", name := "begin", desc := "()I" } : Jvm.MethodName) prog_1_method_2_code (2 : Nat) (Option.some Jvm.ClassFile.FieldType.int)), (Jvm.Cond.methodLink "StableHeap" (31 : Nat) ({ cls := "StableHeap", name := "unusedTransaction", desc := "()LStableHeap$Transaction;" } : Jvm.MethodName)), (Jvm.Cond.instanceMethod ({ cls := "StableHeap", name := "unusedTransaction", desc := "()LStableHeap$Transaction;" } : Jvm.MethodName)), (Jvm.Cond.code ({ cls := "StableHeap", name := "unusedTransaction", desc := "()LStableHeap$Transaction;" } : Jvm.MethodName) prog_1_method_18_code (2 : Nat) (Option.some (Jvm.ClassFile.FieldType.object "StableHeap$Transaction"))), (Jvm.Cond.classLink "StableHeap" (63 : Nat) "java/lang/IllegalStateException"), (Jvm.Cond.instantiable "java/lang/IllegalStateException" (6 : Nat)), (Jvm.Cond.selects "java/lang/IllegalStateException" ({ cls := "java/lang/Throwable", name := "fillInStackTrace", desc := "(I)Ljava/lang/Throwable;" } : Jvm.MethodName) ({ cls := "java/lang/Throwable", name := "fillInStackTrace", desc := "(I)Ljava/lang/Throwable;" } : Jvm.MethodName)), (Jvm.Cond.selects "java/lang/IllegalStateException" ({ cls := "java/lang/Throwable", name := "fillInStackTrace", desc := "()Ljava/lang/Throwable;" } : Jvm.MethodName) ({ cls := "java/lang/Throwable", name := "fillInStackTrace", desc := "()Ljava/lang/Throwable;" } : Jvm.MethodName)), (Jvm.Cond.lays "java/lang/IllegalStateException" "java/lang/Throwable" "cause" "Ljava/lang/Throwable;"), (Jvm.Cond.lays "java/lang/Throwable" "java/lang/Throwable" "cause" "Ljava/lang/Throwable;"), (Jvm.Cond.lays "java/lang/IllegalStateException" "java/lang/Throwable" "stackTrace" "[Ljava/lang/StackTraceElement;"), (Jvm.Cond.lays "java/lang/Throwable" "java/lang/Throwable" "stackTrace" "[Ljava/lang/StackTraceElement;"), (Jvm.Cond.lays "java/lang/IllegalStateException" "java/lang/Throwable" "suppressedExceptions" "Ljava/util/List;"), (Jvm.Cond.lays "java/lang/Throwable" "java/lang/Throwable" "suppressedExceptions" "Ljava/util/List;"), (Jvm.Cond.lays "java/lang/IllegalStateException" "java/lang/Throwable" "detailMessage" "Ljava/lang/String;"), (Jvm.Cond.lays "java/lang/Throwable" "java/lang/Throwable" "detailMessage" "Ljava/lang/String;"), (Jvm.Cond.lays "java/lang/IllegalStateException" "java/lang/Throwable" "backtrace" "Ljava/lang/Object;"), (Jvm.Cond.lays "java/lang/Throwable" "java/lang/Throwable" "backtrace" "Ljava/lang/Object;"), (Jvm.Cond.fieldLink "java/lang/Throwable" (198 : Nat) "java/lang/Throwable" "backtrace" "Ljava/lang/Object;"), (Jvm.Cond.superclass "java/lang/Throwable" "java/lang/Object"), (Jvm.Cond.instanceMethod ({ cls := "java/lang/Throwable", name := "<init>", desc := "()V" } : Jvm.MethodName)), (Jvm.Cond.code ({ cls := "java/lang/Throwable", name := "<init>", desc := "()V" } : Jvm.MethodName) prog_14_method_1_code (1 : Nat) (Option.none : Option Jvm.ClassFile.FieldType)), (Jvm.Cond.methodLink "java/lang/Throwable" (1 : Nat) ({ cls := "java/lang/Object", name := "<init>", desc := "()V" } : Jvm.MethodName)), (Jvm.Cond.fieldLink "java/lang/Throwable" (13 : Nat) "java/lang/Throwable" "UNASSIGNED_STACK" "[Ljava/lang/StackTraceElement;"), (Jvm.Cond.fieldLink "java/lang/Throwable" (20 : Nat) "java/lang/Throwable" "SUPPRESSED_SENTINEL" "Ljava/util/List;"), (Jvm.Cond.methodLink "java/lang/Throwable" (27 : Nat) ({ cls := "java/lang/Throwable", name := "fillInStackTrace", desc := "()Ljava/lang/Throwable;" } : Jvm.MethodName)), (Jvm.Cond.instanceMethod ({ cls := "java/lang/Throwable", name := "fillInStackTrace", desc := "()Ljava/lang/Throwable;" } : Jvm.MethodName)), (Jvm.Cond.sameMethod "java/lang/Throwable" "java/lang/Throwable" "fillInStackTrace" "()Ljava/lang/Throwable;"), (Jvm.Cond.selects "java/lang/ArithmeticException" ({ cls := "java/lang/Throwable", name := "fillInStackTrace", desc := "()Ljava/lang/Throwable;" } : Jvm.MethodName) ({ cls := "java/lang/Throwable", name := "fillInStackTrace", desc := "()Ljava/lang/Throwable;" } : Jvm.MethodName)), (Jvm.Cond.selects "java/lang/IllegalArgumentException" ({ cls := "java/lang/Throwable", name := "fillInStackTrace", desc := "()Ljava/lang/Throwable;" } : Jvm.MethodName) ({ cls := "java/lang/Throwable", name := "fillInStackTrace", desc := "()Ljava/lang/Throwable;" } : Jvm.MethodName)), (Jvm.Cond.selects "java/lang/IndexOutOfBoundsException" ({ cls := "java/lang/Throwable", name := "fillInStackTrace", desc := "()Ljava/lang/Throwable;" } : Jvm.MethodName) ({ cls := "java/lang/Throwable", name := "fillInStackTrace", desc := "()Ljava/lang/Throwable;" } : Jvm.MethodName)), (Jvm.Cond.selects "java/lang/UnsupportedOperationException" ({ cls := "java/lang/Throwable", name := "fillInStackTrace", desc := "()Ljava/lang/Throwable;" } : Jvm.MethodName) ({ cls := "java/lang/Throwable", name := "fillInStackTrace", desc := "()Ljava/lang/Throwable;" } : Jvm.MethodName))]
def TB_5 : List Cond := [(Jvm.Cond.selects "java/util/NoSuchElementException" ({ cls := "java/lang/Throwable", name := "fillInStackTrace", desc := "()Ljava/lang/Throwable;" } : Jvm.MethodName) ({ cls := "java/lang/Throwable", name := "fillInStackTrace", desc := "()Ljava/lang/Throwable;" } : Jvm.MethodName)), (Jvm.Cond.codeSync ({ cls := "java/lang/Throwable", name := "fillInStackTrace", desc := "()Ljava/lang/Throwable;" } : Jvm.MethodName) prog_14_method_18_code (1 : Nat) (Option.some (Jvm.ClassFile.FieldType.object "java/lang/Throwable"))), (Jvm.Cond.methodLink "java/lang/Throwable" (202 : Nat) ({ cls := "java/lang/Throwable", name := "fillInStackTrace", desc := "(I)Ljava/lang/Throwable;" } : Jvm.MethodName)), (Jvm.Cond.instanceMethod ({ cls := "java/lang/Throwable", name := "fillInStackTrace", desc := "(I)Ljava/lang/Throwable;" } : Jvm.MethodName)), (Jvm.Cond.instantiable "java/lang/Throwable" (6 : Nat)), (Jvm.Cond.native ({ cls := "java/lang/Throwable", name := "fillInStackTrace", desc := "(I)Ljava/lang/Throwable;" } : Jvm.MethodName)), (Jvm.Cond.methodLink "StableHeap" (67 : Nat) ({ cls := "java/lang/IllegalStateException", name := "<init>", desc := "(Ljava/lang/String;)V" } : Jvm.MethodName)), (Jvm.Cond.instanceMethod ({ cls := "java/lang/IllegalStateException", name := "<init>", desc := "(Ljava/lang/String;)V" } : Jvm.MethodName)), (Jvm.Cond.code ({ cls := "java/lang/IllegalStateException", name := "<init>", desc := "(Ljava/lang/String;)V" } : Jvm.MethodName) prog_10_method_2_code (2 : Nat) (Option.none : Option Jvm.ClassFile.FieldType)), (Jvm.Cond.methodLink "java/lang/IllegalStateException" (7 : Nat) ({ cls := "java/lang/RuntimeException", name := "<init>", desc := "(Ljava/lang/String;)V" } : Jvm.MethodName)), (Jvm.Cond.instanceMethod ({ cls := "java/lang/RuntimeException", name := "<init>", desc := "(Ljava/lang/String;)V" } : Jvm.MethodName)), (Jvm.Cond.code ({ cls := "java/lang/RuntimeException", name := "<init>", desc := "(Ljava/lang/String;)V" } : Jvm.MethodName) prog_12_method_2_code (2 : Nat) (Option.none : Option Jvm.ClassFile.FieldType)), (Jvm.Cond.methodLink "java/lang/RuntimeException" (7 : Nat) ({ cls := "java/lang/Exception", name := "<init>", desc := "(Ljava/lang/String;)V" } : Jvm.MethodName)), (Jvm.Cond.instanceMethod ({ cls := "java/lang/Exception", name := "<init>", desc := "(Ljava/lang/String;)V" } : Jvm.MethodName)), (Jvm.Cond.code ({ cls := "java/lang/Exception", name := "<init>", desc := "(Ljava/lang/String;)V" } : Jvm.MethodName) prog_8_method_2_code (2 : Nat) (Option.none : Option Jvm.ClassFile.FieldType)), (Jvm.Cond.methodLink "java/lang/Exception" (7 : Nat) ({ cls := "java/lang/Throwable", name := "<init>", desc := "(Ljava/lang/String;)V" } : Jvm.MethodName)), (Jvm.Cond.instanceMethod ({ cls := "java/lang/Throwable", name := "<init>", desc := "(Ljava/lang/String;)V" } : Jvm.MethodName)), (Jvm.Cond.code ({ cls := "java/lang/Throwable", name := "<init>", desc := "(Ljava/lang/String;)V" } : Jvm.MethodName) prog_14_method_2_code (2 : Nat) (Option.none : Option Jvm.ClassFile.FieldType)), (Jvm.Cond.fieldLink "java/lang/Throwable" (198 : Nat) "java/lang/Throwable" "backtrace" "Ljava/lang/Object;"), (Jvm.Cond.fieldLink "java/lang/Throwable" (31 : Nat) "java/lang/Throwable" "detailMessage" "Ljava/lang/String;"), (Jvm.Cond.fieldLink "java/lang/Throwable" (7 : Nat) "java/lang/Throwable" "cause" "Ljava/lang/Throwable;"), (Jvm.Cond.fieldLink "java/lang/Throwable" (17 : Nat) "java/lang/Throwable" "stackTrace" "[Ljava/lang/StackTraceElement;"), (Jvm.Cond.fieldLink "java/lang/Throwable" (24 : Nat) "java/lang/Throwable" "suppressedExceptions" "Ljava/util/List;"), (Jvm.Cond.soleField "java/lang/Throwable" "backtrace"), (Jvm.Cond.soleField "java/lang/Throwable" "detailMessage"), (Jvm.Cond.soleField "java/lang/Throwable" "cause"), (Jvm.Cond.soleField "java/lang/Throwable" "stackTrace"), (Jvm.Cond.lays "java/lang/IllegalStateException" "java/lang/Throwable" "depth" "I"), (Jvm.Cond.soleField "java/lang/Throwable" "depth"), (Jvm.Cond.soleField "java/lang/Throwable" "suppressedExceptions"), (Jvm.Cond.superclass "java/lang/IllegalStateException" "java/lang/RuntimeException"), (Jvm.Cond.arrayClass Jvm.ClassFile.FieldType.byte), (Jvm.Cond.methodLink "StableHeap" (35 : Nat) ({ cls := "StableHeap", name := "writeRecord", desc := "(LStableHeap$Transaction;I)V" } : Jvm.MethodName)), (Jvm.Cond.instanceMethod ({ cls := "StableHeap", name := "writeRecord", desc := "(LStableHeap$Transaction;I)V" } : Jvm.MethodName)), (Jvm.Cond.code ({ cls := "StableHeap", name := "writeRecord", desc := "(LStableHeap$Transaction;I)V" } : Jvm.MethodName) prog_1_method_30_code (3 : Nat) (Option.none : Option Jvm.ClassFile.FieldType)), (Jvm.Cond.classLink "StableHeap" (200 : Nat) "java/lang/UnsupportedOperationException"), (Jvm.Cond.instantiable "java/lang/UnsupportedOperationException" (6 : Nat)), (Jvm.Cond.selects "java/lang/UnsupportedOperationException" ({ cls := "java/lang/Throwable", name := "fillInStackTrace", desc := "(I)Ljava/lang/Throwable;" } : Jvm.MethodName) ({ cls := "java/lang/Throwable", name := "fillInStackTrace", desc := "(I)Ljava/lang/Throwable;" } : Jvm.MethodName)), (Jvm.Cond.lays "java/lang/UnsupportedOperationException" "java/lang/Throwable" "cause" "Ljava/lang/Throwable;"), (Jvm.Cond.lays "java/lang/UnsupportedOperationException" "java/lang/Throwable" "stackTrace" "[Ljava/lang/StackTraceElement;"), (Jvm.Cond.lays "java/lang/UnsupportedOperationException" "java/lang/Throwable" "suppressedExceptions" "Ljava/util/List;"), (Jvm.Cond.lays "java/lang/UnsupportedOperationException" "java/lang/Throwable" "detailMessage" "Ljava/lang/String;"), (Jvm.Cond.lays "java/lang/UnsupportedOperationException" "java/lang/Throwable" "backtrace" "Ljava/lang/Object;"), (Jvm.Cond.methodLink "StableHeap" (204 : Nat) ({ cls := "java/lang/UnsupportedOperationException", name := "<init>", desc := "(Ljava/lang/String;)V" } : Jvm.MethodName)), (Jvm.Cond.instanceMethod ({ cls := "java/lang/UnsupportedOperationException", name := "<init>", desc := "(Ljava/lang/String;)V" } : Jvm.MethodName)), (Jvm.Cond.code ({ cls := "java/lang/UnsupportedOperationException", name := "<init>", desc := "(Ljava/lang/String;)V" } : Jvm.MethodName) prog_15_method_2_code (2 : Nat) (Option.none : Option Jvm.ClassFile.FieldType)), (Jvm.Cond.methodLink "java/lang/UnsupportedOperationException" (7 : Nat) ({ cls := "java/lang/RuntimeException", name := "<init>", desc := "(Ljava/lang/String;)V" } : Jvm.MethodName)), (Jvm.Cond.lays "java/lang/UnsupportedOperationException" "java/lang/Throwable" "depth" "I"), (Jvm.Cond.superclass "java/lang/UnsupportedOperationException" "java/lang/RuntimeException"), (Jvm.Cond.methodLink "StableHeapLaw" (78 : Nat) ({ cls := "StableHeapLaw", name := "make", desc := "(LStableHeap;II[J)I" } : Jvm.MethodName))]
def TB_6 : List Cond := [(Jvm.Cond.static ({ cls := "StableHeapLaw", name := "make", desc := "(LStableHeap;II[J)I" } : Jvm.MethodName)), (Jvm.Cond.codeWith ({ cls := "StableHeapLaw", name := "make", desc := "(LStableHeap;II[J)I" } : Jvm.MethodName) method_4_code (5 : Nat) (Option.some Jvm.ClassFile.FieldType.int) [((0 : Nat), (10 : Nat), (13 : Nat), (21 : Nat)), ((0 : Nat), (10 : Nat), (17 : Nat), (23 : Nat)), ((0 : Nat), (10 : Nat), (21 : Nat), (13 : Nat)), ((0 : Nat), (10 : Nat), (25 : Nat), (15 : Nat))]), (Jvm.Cond.classLink "StableHeapLaw" (21 : Nat) "java/util/NoSuchElementException"), (Jvm.Cond.classLink "StableHeapLaw" (23 : Nat) "java/lang/IllegalArgumentException"), (Jvm.Cond.methodLink "StableHeapLaw" (17 : Nat) ({ cls := "StableHeap", name := "make", desc := "(II)I" } : Jvm.MethodName)), (Jvm.Cond.instanceMethod ({ cls := "StableHeap", name := "make", desc := "(II)I" } : Jvm.MethodName)), (Jvm.Cond.selects "StableHeap" ({ cls := "StableHeap", name := "make", desc := "(II)I" } : Jvm.MethodName) ({ cls := "StableHeap", name := "make", desc := "(II)I" } : Jvm.MethodName)), (Jvm.Cond.code ({ cls := "StableHeap", name := "make", desc := "(II)I" } : Jvm.MethodName) prog_1_method_3_code (5 : Nat) (Option.some Jvm.ClassFile.FieldType.int)), (Jvm.Cond.methodLink "StableHeap" (46 : Nat) ({ cls := "StableHeap", name := "activeTransaction", desc := "(I)LStableHeap$Transaction;" } : Jvm.MethodName)), (Jvm.Cond.instanceMethod ({ cls := "StableHeap", name := "activeTransaction", desc := "(I)LStableHeap$Transaction;" } : Jvm.MethodName)), (Jvm.Cond.code ({ cls := "StableHeap", name := "activeTransaction", desc := "(I)LStableHeap$Transaction;" } : Jvm.MethodName) prog_1_method_19_code (3 : Nat) (Option.some (Jvm.ClassFile.FieldType.object "StableHeap$Transaction"))), (Jvm.Cond.classLink "StableHeap" (162 : Nat) "java/util/NoSuchElementException"), (Jvm.Cond.instantiable "java/util/NoSuchElementException" (6 : Nat)), (Jvm.Cond.selects "java/util/NoSuchElementException" ({ cls := "java/lang/Throwable", name := "fillInStackTrace", desc := "(I)Ljava/lang/Throwable;" } : Jvm.MethodName) ({ cls := "java/lang/Throwable", name := "fillInStackTrace", desc := "(I)Ljava/lang/Throwable;" } : Jvm.MethodName)), (Jvm.Cond.lays "java/util/NoSuchElementException" "java/lang/Throwable" "cause" "Ljava/lang/Throwable;"), (Jvm.Cond.lays "java/util/NoSuchElementException" "java/lang/Throwable" "stackTrace" "[Ljava/lang/StackTraceElement;"), (Jvm.Cond.lays "java/util/NoSuchElementException" "java/lang/Throwable" "suppressedExceptions" "Ljava/util/List;"), (Jvm.Cond.lays "java/util/NoSuchElementException" "java/lang/Throwable" "detailMessage" "Ljava/lang/String;"), (Jvm.Cond.lays "java/util/NoSuchElementException" "java/lang/Throwable" "backtrace" "Ljava/lang/Object;"), (Jvm.Cond.methodLink "StableHeap" (166 : Nat) ({ cls := "java/util/NoSuchElementException", name := "<init>", desc := "(Ljava/lang/String;)V" } : Jvm.MethodName)), (Jvm.Cond.instanceMethod ({ cls := "java/util/NoSuchElementException", name := "<init>", desc := "(Ljava/lang/String;)V" } : Jvm.MethodName)), (Jvm.Cond.code ({ cls := "java/util/NoSuchElementException", name := "<init>", desc := "(Ljava/lang/String;)V" } : Jvm.MethodName) prog_16_method_4_code (2 : Nat) (Option.none : Option Jvm.ClassFile.FieldType)), (Jvm.Cond.methodLink "java/util/NoSuchElementException" (13 : Nat) ({ cls := "java/lang/RuntimeException", name := "<init>", desc := "(Ljava/lang/String;)V" } : Jvm.MethodName)), (Jvm.Cond.lays "java/util/NoSuchElementException" "java/lang/Throwable" "depth" "I"), (Jvm.Cond.superclass "java/util/NoSuchElementException" "java/lang/RuntimeException"), (Jvm.Cond.classLink "StableHeap" (50 : Nat) "java/lang/IllegalArgumentException"), (Jvm.Cond.instantiable "java/lang/IllegalArgumentException" (6 : Nat)), (Jvm.Cond.selects "java/lang/IllegalArgumentException" ({ cls := "java/lang/Throwable", name := "fillInStackTrace", desc := "(I)Ljava/lang/Throwable;" } : Jvm.MethodName) ({ cls := "java/lang/Throwable", name := "fillInStackTrace", desc := "(I)Ljava/lang/Throwable;" } : Jvm.MethodName)), (Jvm.Cond.lays "java/lang/IllegalArgumentException" "java/lang/Throwable" "cause" "Ljava/lang/Throwable;"), (Jvm.Cond.lays "java/lang/IllegalArgumentException" "java/lang/Throwable" "stackTrace" "[Ljava/lang/StackTraceElement;"), (Jvm.Cond.lays "java/lang/IllegalArgumentException" "java/lang/Throwable" "suppressedExceptions" "Ljava/util/List;"), (Jvm.Cond.lays "java/lang/IllegalArgumentException" "java/lang/Throwable" "detailMessage" "Ljava/lang/String;"), (Jvm.Cond.lays "java/lang/IllegalArgumentException" "java/lang/Throwable" "backtrace" "Ljava/lang/Object;"), (Jvm.Cond.methodLink "StableHeap" (54 : Nat) ({ cls := "java/lang/IllegalArgumentException", name := "<init>", desc := "(Ljava/lang/String;)V" } : Jvm.MethodName)), (Jvm.Cond.instanceMethod ({ cls := "java/lang/IllegalArgumentException", name := "<init>", desc := "(Ljava/lang/String;)V" } : Jvm.MethodName)), (Jvm.Cond.code ({ cls := "java/lang/IllegalArgumentException", name := "<init>", desc := "(Ljava/lang/String;)V" } : Jvm.MethodName) prog_9_method_2_code (2 : Nat) (Option.none : Option Jvm.ClassFile.FieldType)), (Jvm.Cond.methodLink "java/lang/IllegalArgumentException" (7 : Nat) ({ cls := "java/lang/RuntimeException", name := "<init>", desc := "(Ljava/lang/String;)V" } : Jvm.MethodName)), (Jvm.Cond.lays "java/lang/IllegalArgumentException" "java/lang/Throwable" "depth" "I"), (Jvm.Cond.superclass "java/lang/IllegalArgumentException" "java/lang/RuntimeException"), (Jvm.Cond.methodLink "StableHeapLaw" (82 : Nat) ({ cls := "StableHeapLaw", name := "setInt", desc := "(LStableHeap;IIII[J)I" } : Jvm.MethodName)), (Jvm.Cond.static ({ cls := "StableHeapLaw", name := "setInt", desc := "(LStableHeap;IIII[J)I" } : Jvm.MethodName)), (Jvm.Cond.codeWith ({ cls := "StableHeapLaw", name := "setInt", desc := "(LStableHeap;IIII[J)I" } : Jvm.MethodName) method_5_code (7 : Nat) (Option.some Jvm.ClassFile.FieldType.int) [((0 : Nat), (14 : Nat), (17 : Nat), (21 : Nat)), ((0 : Nat), (14 : Nat), (21 : Nat), (29 : Nat)), ((0 : Nat), (14 : Nat), (25 : Nat), (13 : Nat)), ((0 : Nat), (14 : Nat), (29 : Nat), (15 : Nat))]), (Jvm.Cond.classLink "StableHeapLaw" (29 : Nat) "java/lang/IndexOutOfBoundsException"), (Jvm.Cond.methodLink "StableHeapLaw" (25 : Nat) ({ cls := "StableHeap", name := "setInt", desc := "(IIII)I" } : Jvm.MethodName)), (Jvm.Cond.instanceMethod ({ cls := "StableHeap", name := "setInt", desc := "(IIII)I" } : Jvm.MethodName)), (Jvm.Cond.selects "StableHeap" ({ cls := "StableHeap", name := "setInt", desc := "(IIII)I" } : Jvm.MethodName) ({ cls := "StableHeap", name := "setInt", desc := "(IIII)I" } : Jvm.MethodName)), (Jvm.Cond.code ({ cls := "StableHeap", name := "setInt", desc := "(IIII)I" } : Jvm.MethodName) prog_1_method_4_code (8 : Nat) (Option.some Jvm.ClassFile.FieldType.int)), (Jvm.Cond.methodLink "StableHeap" (78 : Nat) ({ cls := "StableHeap", name := "objectWith", desc := "(I)LStableHeap$Lockable;" } : Jvm.MethodName)), (Jvm.Cond.instanceMethod ({ cls := "StableHeap", name := "objectWith", desc := "(I)LStableHeap$Lockable;" } : Jvm.MethodName)), (Jvm.Cond.code ({ cls := "StableHeap", name := "objectWith", desc := "(I)LStableHeap$Lockable;" } : Jvm.MethodName) prog_1_method_21_code (3 : Nat) (Option.some (Jvm.ClassFile.FieldType.object "StableHeap$Lockable")))]
def TB_7 : List Cond := [(Jvm.Cond.methodLink "StableHeap" (179 : Nat) ({ cls := "StableHeap", name := "findObject", desc := "(I)LStableHeap$Lockable;" } : Jvm.MethodName)), (Jvm.Cond.instanceMethod ({ cls := "StableHeap", name := "findObject", desc := "(I)LStableHeap$Lockable;" } : Jvm.MethodName)), (Jvm.Cond.code ({ cls := "StableHeap", name := "findObject", desc := "(I)LStableHeap$Lockable;" } : Jvm.MethodName) prog_1_method_22_code (3 : Nat) (Option.some (Jvm.ClassFile.FieldType.object "StableHeap$Lockable"))), (Jvm.Cond.methodLink "StableHeap" (82 : Nat) ({ cls := "StableHeap", name := "fieldOf", desc := "(LStableHeap$Lockable;I)LStableHeap$Place;" } : Jvm.MethodName)), (Jvm.Cond.static ({ cls := "StableHeap", name := "fieldOf", desc := "(LStableHeap$Lockable;I)LStableHeap$Place;" } : Jvm.MethodName)), (Jvm.Cond.code ({ cls := "StableHeap", name := "fieldOf", desc := "(LStableHeap$Lockable;I)LStableHeap$Place;" } : Jvm.MethodName) prog_1_method_23_code (2 : Nat) (Option.some (Jvm.ClassFile.FieldType.object "StableHeap$Place"))), (Jvm.Cond.classLink "StableHeap" (187 : Nat) "java/lang/IndexOutOfBoundsException"), (Jvm.Cond.instantiable "java/lang/IndexOutOfBoundsException" (6 : Nat)), (Jvm.Cond.selects "java/lang/IndexOutOfBoundsException" ({ cls := "java/lang/Throwable", name := "fillInStackTrace", desc := "(I)Ljava/lang/Throwable;" } : Jvm.MethodName) ({ cls := "java/lang/Throwable", name := "fillInStackTrace", desc := "(I)Ljava/lang/Throwable;" } : Jvm.MethodName)), (Jvm.Cond.lays "java/lang/IndexOutOfBoundsException" "java/lang/Throwable" "cause" "Ljava/lang/Throwable;"), (Jvm.Cond.lays "java/lang/IndexOutOfBoundsException" "java/lang/Throwable" "stackTrace" "[Ljava/lang/StackTraceElement;"), (Jvm.Cond.lays "java/lang/IndexOutOfBoundsException" "java/lang/Throwable" "suppressedExceptions" "Ljava/util/List;"), (Jvm.Cond.lays "java/lang/IndexOutOfBoundsException" "java/lang/Throwable" "detailMessage" "Ljava/lang/String;"), (Jvm.Cond.lays "java/lang/IndexOutOfBoundsException" "java/lang/Throwable" "backtrace" "Ljava/lang/Object;"), (Jvm.Cond.methodLink "StableHeap" (191 : Nat) ({ cls := "java/lang/IndexOutOfBoundsException", name := "<init>", desc := "(Ljava/lang/String;)V" } : Jvm.MethodName)), (Jvm.Cond.instanceMethod ({ cls := "java/lang/IndexOutOfBoundsException", name := "<init>", desc := "(Ljava/lang/String;)V" } : Jvm.MethodName)), (Jvm.Cond.code ({ cls := "java/lang/IndexOutOfBoundsException", name := "<init>", desc := "(Ljava/lang/String;)V" } : Jvm.MethodName) prog_11_method_2_code (2 : Nat) (Option.none : Option Jvm.ClassFile.FieldType)), (Jvm.Cond.methodLink "java/lang/IndexOutOfBoundsException" (7 : Nat) ({ cls := "java/lang/RuntimeException", name := "<init>", desc := "(Ljava/lang/String;)V" } : Jvm.MethodName)), (Jvm.Cond.lays "java/lang/IndexOutOfBoundsException" "java/lang/Throwable" "depth" "I"), (Jvm.Cond.superclass "java/lang/IndexOutOfBoundsException" "java/lang/RuntimeException"), (Jvm.Cond.methodLink "StableHeap" (86 : Nat) ({ cls := "StableHeap", name := "refuseIfLockedByAnother", desc := "(LStableHeap$Lockable;LStableHeap$Transaction;)V" } : Jvm.MethodName)), (Jvm.Cond.static ({ cls := "StableHeap", name := "refuseIfLockedByAnother", desc := "(LStableHeap$Lockable;LStableHeap$Transaction;)V" } : Jvm.MethodName)), (Jvm.Cond.code ({ cls := "StableHeap", name := "refuseIfLockedByAnother", desc := "(LStableHeap$Lockable;LStableHeap$Transaction;)V" } : Jvm.MethodName) prog_1_method_26_code (2 : Nat) (Option.none : Option Jvm.ClassFile.FieldType)), (Jvm.Cond.methodLink "StableHeap" (90 : Nat) ({ cls := "StableHeap$Place", name := "putNumber", desc := "(I)V" } : Jvm.MethodName)), (Jvm.Cond.instanceMethod ({ cls := "StableHeap$Place", name := "putNumber", desc := "(I)V" } : Jvm.MethodName)), (Jvm.Cond.selects "StableHeap$Place" ({ cls := "StableHeap$Place", name := "putNumber", desc := "(I)V" } : Jvm.MethodName) ({ cls := "StableHeap$Place", name := "putNumber", desc := "(I)V" } : Jvm.MethodName)), (Jvm.Cond.code ({ cls := "StableHeap$Place", name := "putNumber", desc := "(I)V" } : Jvm.MethodName) prog_3_method_2_code (2 : Nat) (Option.none : Option Jvm.ClassFile.FieldType)), (Jvm.Cond.methodLink "StableHeap$Place" (7 : Nat) ({ cls := "StableHeap$Place", name := "rememberFormer", desc := "()V" } : Jvm.MethodName)), (Jvm.Cond.instanceMethod ({ cls := "StableHeap$Place", name := "rememberFormer", desc := "()V" } : Jvm.MethodName)), (Jvm.Cond.code ({ cls := "StableHeap$Place", name := "rememberFormer", desc := "()V" } : Jvm.MethodName) prog_3_method_6_code (1 : Nat) (Option.none : Option Jvm.ClassFile.FieldType)), (Jvm.Cond.methodLink "StableHeapLaw" (86 : Nat) ({ cls := "StableHeapLaw", name := "setReference", desc := "(LStableHeap;IIII[J)I" } : Jvm.MethodName)), (Jvm.Cond.static ({ cls := "StableHeapLaw", name := "setReference", desc := "(LStableHeap;IIII[J)I" } : Jvm.MethodName)), (Jvm.Cond.codeWith ({ cls := "StableHeapLaw", name := "setReference", desc := "(LStableHeap;IIII[J)I" } : Jvm.MethodName) method_6_code (7 : Nat) (Option.some Jvm.ClassFile.FieldType.int) [((0 : Nat), (14 : Nat), (17 : Nat), (21 : Nat)), ((0 : Nat), (14 : Nat), (21 : Nat), (29 : Nat)), ((0 : Nat), (14 : Nat), (25 : Nat), (13 : Nat)), ((0 : Nat), (14 : Nat), (29 : Nat), (23 : Nat)), ((0 : Nat), (14 : Nat), (33 : Nat), (15 : Nat))]), (Jvm.Cond.methodLink "StableHeapLaw" (31 : Nat) ({ cls := "StableHeap", name := "setReference", desc := "(IIII)I" } : Jvm.MethodName)), (Jvm.Cond.instanceMethod ({ cls := "StableHeap", name := "setReference", desc := "(IIII)I" } : Jvm.MethodName)), (Jvm.Cond.selects "StableHeap" ({ cls := "StableHeap", name := "setReference", desc := "(IIII)I" } : Jvm.MethodName) ({ cls := "StableHeap", name := "setReference", desc := "(IIII)I" } : Jvm.MethodName)), (Jvm.Cond.code ({ cls := "StableHeap", name := "setReference", desc := "(IIII)I" } : Jvm.MethodName) prog_1_method_5_code (8 : Nat) (Option.some Jvm.ClassFile.FieldType.int)), (Jvm.Cond.methodLink "StableHeap" (96 : Nat) ({ cls := "StableHeap", name := "refer", desc := "(LStableHeap$Transaction;LStableHeap$Lockable;LStableHeap$Place;I)V" } : Jvm.MethodName)), (Jvm.Cond.instanceMethod ({ cls := "StableHeap", name := "refer", desc := "(LStableHeap$Transaction;LStableHeap$Lockable;LStableHeap$Place;I)V" } : Jvm.MethodName)), (Jvm.Cond.code ({ cls := "StableHeap", name := "refer", desc := "(LStableHeap$Transaction;LStableHeap$Lockable;LStableHeap$Place;I)V" } : Jvm.MethodName) prog_1_method_28_code (6 : Nat) (Option.none : Option Jvm.ClassFile.FieldType)), (Jvm.Cond.methodLink "StableHeap" (196 : Nat) ({ cls := "StableHeap$Place", name := "putReference", desc := "(LStableHeap$Lockable;)V" } : Jvm.MethodName)), (Jvm.Cond.instanceMethod ({ cls := "StableHeap$Place", name := "putReference", desc := "(LStableHeap$Lockable;)V" } : Jvm.MethodName)), (Jvm.Cond.selects "StableHeap$Place" ({ cls := "StableHeap$Place", name := "putReference", desc := "(LStableHeap$Lockable;)V" } : Jvm.MethodName) ({ cls := "StableHeap$Place", name := "putReference", desc := "(LStableHeap$Lockable;)V" } : Jvm.MethodName)), (Jvm.Cond.code ({ cls := "StableHeap$Place", name := "putReference", desc := "(LStableHeap$Lockable;)V" } : Jvm.MethodName) prog_3_method_3_code (2 : Nat) (Option.none : Option Jvm.ClassFile.FieldType)), (Jvm.Cond.methodLink "StableHeapLaw" (89 : Nat) ({ cls := "StableHeapLaw", name := "setRoot", desc := "(LStableHeap;III[J)I" } : Jvm.MethodName)), (Jvm.Cond.static ({ cls := "StableHeapLaw", name := "setRoot", desc := "(LStableHeap;III[J)I" } : Jvm.MethodName)), (Jvm.Cond.codeWith ({ cls := "StableHeapLaw", name := "setRoot", desc := "(LStableHeap;III[J)I" } : Jvm.MethodName) method_7_code (6 : Nat) (Option.some Jvm.ClassFile.FieldType.int) [((0 : Nat), (12 : Nat), (15 : Nat), (21 : Nat)), ((0 : Nat), (12 : Nat), (19 : Nat), (29 : Nat)), ((0 : Nat), (12 : Nat), (23 : Nat), (13 : Nat)), ((0 : Nat), (12 : Nat), (27 : Nat), (23 : Nat)), ((0 : Nat), (12 : Nat), (31 : Nat), (15 : Nat))]), (Jvm.Cond.methodLink "StableHeapLaw" (34 : Nat) ({ cls := "StableHeap", name := "setRoot", desc := "(III)I" } : Jvm.MethodName)), (Jvm.Cond.instanceMethod ({ cls := "StableHeap", name := "setRoot", desc := "(III)I" } : Jvm.MethodName)), (Jvm.Cond.selects "StableHeap" ({ cls := "StableHeap", name := "setRoot", desc := "(III)I" } : Jvm.MethodName) ({ cls := "StableHeap", name := "setRoot", desc := "(III)I" } : Jvm.MethodName))]
def TB_8 : List Cond := [(Jvm.Cond.code ({ cls := "StableHeap", name := "setRoot", desc := "(III)I" } : Jvm.MethodName) prog_1_method_6_code (6 : Nat) (Option.some Jvm.ClassFile.FieldType.int)), (Jvm.Cond.methodLink "StableHeap" (100 : Nat) ({ cls := "StableHeap", name := "rootAt", desc := "(I)LStableHeap$Lockable;" } : Jvm.MethodName)), (Jvm.Cond.instanceMethod ({ cls := "StableHeap", name := "rootAt", desc := "(I)LStableHeap$Lockable;" } : Jvm.MethodName)), (Jvm.Cond.code ({ cls := "StableHeap", name := "rootAt", desc := "(I)LStableHeap$Lockable;" } : Jvm.MethodName) prog_1_method_24_code (2 : Nat) (Option.some (Jvm.ClassFile.FieldType.object "StableHeap$Lockable"))), (Jvm.Cond.methodLink "StableHeapLaw" (93 : Nat) ({ cls := "StableHeapLaw", name := "getInt", desc := "(LStableHeap;III[J)I" } : Jvm.MethodName)), (Jvm.Cond.static ({ cls := "StableHeapLaw", name := "getInt", desc := "(LStableHeap;III[J)I" } : Jvm.MethodName)), (Jvm.Cond.codeWith ({ cls := "StableHeapLaw", name := "getInt", desc := "(LStableHeap;III[J)I" } : Jvm.MethodName) method_8_code (6 : Nat) (Option.some Jvm.ClassFile.FieldType.int) [((0 : Nat), (12 : Nat), (15 : Nat), (21 : Nat)), ((0 : Nat), (12 : Nat), (19 : Nat), (29 : Nat)), ((0 : Nat), (12 : Nat), (23 : Nat), (13 : Nat)), ((0 : Nat), (12 : Nat), (27 : Nat), (41 : Nat))]), (Jvm.Cond.classLink "StableHeapLaw" (41 : Nat) "java/lang/ArithmeticException"), (Jvm.Cond.methodLink "StableHeapLaw" (38 : Nat) ({ cls := "StableHeap", name := "getInt", desc := "(III)I" } : Jvm.MethodName)), (Jvm.Cond.instanceMethod ({ cls := "StableHeap", name := "getInt", desc := "(III)I" } : Jvm.MethodName)), (Jvm.Cond.selects "StableHeap" ({ cls := "StableHeap", name := "getInt", desc := "(III)I" } : Jvm.MethodName) ({ cls := "StableHeap", name := "getInt", desc := "(III)I" } : Jvm.MethodName)), (Jvm.Cond.code ({ cls := "StableHeap", name := "getInt", desc := "(III)I" } : Jvm.MethodName) prog_1_method_7_code (5 : Nat) (Option.some Jvm.ClassFile.FieldType.int)), (Jvm.Cond.methodLink "StableHeap" (107 : Nat) ({ cls := "StableHeap", name := "readField", desc := "(III)LStableHeap$Place;" } : Jvm.MethodName)), (Jvm.Cond.instanceMethod ({ cls := "StableHeap", name := "readField", desc := "(III)LStableHeap$Place;" } : Jvm.MethodName)), (Jvm.Cond.code ({ cls := "StableHeap", name := "readField", desc := "(III)LStableHeap$Place;" } : Jvm.MethodName) prog_1_method_27_code (7 : Nat) (Option.some (Jvm.ClassFile.FieldType.object "StableHeap$Place"))), (Jvm.Cond.classLink "StableHeap" (115 : Nat) "java/lang/ArithmeticException"), (Jvm.Cond.instantiable "java/lang/ArithmeticException" (6 : Nat)), (Jvm.Cond.selects "java/lang/ArithmeticException" ({ cls := "java/lang/Throwable", name := "fillInStackTrace", desc := "(I)Ljava/lang/Throwable;" } : Jvm.MethodName) ({ cls := "java/lang/Throwable", name := "fillInStackTrace", desc := "(I)Ljava/lang/Throwable;" } : Jvm.MethodName)), (Jvm.Cond.lays "java/lang/ArithmeticException" "java/lang/Throwable" "cause" "Ljava/lang/Throwable;"), (Jvm.Cond.lays "java/lang/ArithmeticException" "java/lang/Throwable" "stackTrace" "[Ljava/lang/StackTraceElement;"), (Jvm.Cond.lays "java/lang/ArithmeticException" "java/lang/Throwable" "suppressedExceptions" "Ljava/util/List;"), (Jvm.Cond.lays "java/lang/ArithmeticException" "java/lang/Throwable" "detailMessage" "Ljava/lang/String;"), (Jvm.Cond.lays "java/lang/ArithmeticException" "java/lang/Throwable" "backtrace" "Ljava/lang/Object;"), (Jvm.Cond.methodLink "StableHeap" (119 : Nat) ({ cls := "java/lang/ArithmeticException", name := "<init>", desc := "(Ljava/lang/String;)V" } : Jvm.MethodName)), (Jvm.Cond.instanceMethod ({ cls := "java/lang/ArithmeticException", name := "<init>", desc := "(Ljava/lang/String;)V" } : Jvm.MethodName)), (Jvm.Cond.code ({ cls := "java/lang/ArithmeticException", name := "<init>", desc := "(Ljava/lang/String;)V" } : Jvm.MethodName) prog_7_method_2_code (2 : Nat) (Option.none : Option Jvm.ClassFile.FieldType)), (Jvm.Cond.methodLink "java/lang/ArithmeticException" (7 : Nat) ({ cls := "java/lang/RuntimeException", name := "<init>", desc := "(Ljava/lang/String;)V" } : Jvm.MethodName)), (Jvm.Cond.lays "java/lang/ArithmeticException" "java/lang/Throwable" "depth" "I"), (Jvm.Cond.superclass "java/lang/ArithmeticException" "java/lang/RuntimeException"), (Jvm.Cond.methodLink "StableHeapLaw" (96 : Nat) ({ cls := "StableHeapLaw", name := "getReference", desc := "(LStableHeap;III[J)I" } : Jvm.MethodName)), (Jvm.Cond.static ({ cls := "StableHeapLaw", name := "getReference", desc := "(LStableHeap;III[J)I" } : Jvm.MethodName)), (Jvm.Cond.codeWith ({ cls := "StableHeapLaw", name := "getReference", desc := "(LStableHeap;III[J)I" } : Jvm.MethodName) method_9_code (6 : Nat) (Option.some Jvm.ClassFile.FieldType.int) [((0 : Nat), (12 : Nat), (15 : Nat), (21 : Nat)), ((0 : Nat), (12 : Nat), (19 : Nat), (29 : Nat)), ((0 : Nat), (12 : Nat), (23 : Nat), (13 : Nat)), ((0 : Nat), (12 : Nat), (27 : Nat), (41 : Nat))]), (Jvm.Cond.methodLink "StableHeapLaw" (43 : Nat) ({ cls := "StableHeap", name := "getReference", desc := "(III)I" } : Jvm.MethodName)), (Jvm.Cond.instanceMethod ({ cls := "StableHeap", name := "getReference", desc := "(III)I" } : Jvm.MethodName)), (Jvm.Cond.selects "StableHeap" ({ cls := "StableHeap", name := "getReference", desc := "(III)I" } : Jvm.MethodName) ({ cls := "StableHeap", name := "getReference", desc := "(III)I" } : Jvm.MethodName)), (Jvm.Cond.code ({ cls := "StableHeap", name := "getReference", desc := "(III)I" } : Jvm.MethodName) prog_1_method_8_code (5 : Nat) (Option.some Jvm.ClassFile.FieldType.int)), (Jvm.Cond.methodLink "StableHeap" (127 : Nat) ({ cls := "StableHeap", name := "handleOf", desc := "(LStableHeap$Lockable;)I" } : Jvm.MethodName)), (Jvm.Cond.static ({ cls := "StableHeap", name := "handleOf", desc := "(LStableHeap$Lockable;)I" } : Jvm.MethodName)), (Jvm.Cond.code ({ cls := "StableHeap", name := "handleOf", desc := "(LStableHeap$Lockable;)I" } : Jvm.MethodName) prog_1_method_25_code (1 : Nat) (Option.some Jvm.ClassFile.FieldType.int)), (Jvm.Cond.methodLink "StableHeapLaw" (99 : Nat) ({ cls := "StableHeapLaw", name := "getRoot", desc := "(LStableHeap;II[J)I" } : Jvm.MethodName)), (Jvm.Cond.static ({ cls := "StableHeapLaw", name := "getRoot", desc := "(LStableHeap;II[J)I" } : Jvm.MethodName)), (Jvm.Cond.codeWith ({ cls := "StableHeapLaw", name := "getRoot", desc := "(LStableHeap;II[J)I" } : Jvm.MethodName) method_10_code (5 : Nat) (Option.some Jvm.ClassFile.FieldType.int) [((0 : Nat), (10 : Nat), (13 : Nat), (21 : Nat)), ((0 : Nat), (10 : Nat), (17 : Nat), (29 : Nat)), ((0 : Nat), (10 : Nat), (21 : Nat), (13 : Nat))]), (Jvm.Cond.methodLink "StableHeapLaw" (46 : Nat) ({ cls := "StableHeap", name := "getRoot", desc := "(II)I" } : Jvm.MethodName)), (Jvm.Cond.instanceMethod ({ cls := "StableHeap", name := "getRoot", desc := "(II)I" } : Jvm.MethodName)), (Jvm.Cond.selects "StableHeap" ({ cls := "StableHeap", name := "getRoot", desc := "(II)I" } : Jvm.MethodName) ({ cls := "StableHeap", name := "getRoot", desc := "(II)I" } : Jvm.MethodName)), (Jvm.Cond.code ({ cls := "StableHeap", name := "getRoot", desc := "(II)I" } : Jvm.MethodName) prog_1_method_9_code (5 : Nat) (Option.some Jvm.ClassFile.FieldType.int)), (Jvm.Cond.methodLink "StableHeapLaw" (102 : Nat) ({ cls := "StableHeapLaw", name := "commit", desc := "(LStableHeap;I[J)I" } : Jvm.MethodName)), (Jvm.Cond.static ({ cls := "StableHeapLaw", name := "commit", desc := "(LStableHeap;I[J)I" } : Jvm.MethodName)), (Jvm.Cond.codeWith ({ cls := "StableHeapLaw", name := "commit", desc := "(LStableHeap;I[J)I" } : Jvm.MethodName) method_11_code (4 : Nat) (Option.some Jvm.ClassFile.FieldType.int) [((0 : Nat), (9 : Nat), (12 : Nat), (21 : Nat)), ((0 : Nat), (9 : Nat), (15 : Nat), (15 : Nat))]), (Jvm.Cond.methodLink "StableHeapLaw" (49 : Nat) ({ cls := "StableHeap", name := "commit", desc := "(I)I" } : Jvm.MethodName))]
def TB_9 : List Cond := [(Jvm.Cond.instanceMethod ({ cls := "StableHeap", name := "commit", desc := "(I)I" } : Jvm.MethodName)), (Jvm.Cond.selects "StableHeap" ({ cls := "StableHeap", name := "commit", desc := "(I)I" } : Jvm.MethodName) ({ cls := "StableHeap", name := "commit", desc := "(I)I" } : Jvm.MethodName)), (Jvm.Cond.code ({ cls := "StableHeap", name := "commit", desc := "(I)I" } : Jvm.MethodName) prog_1_method_10_code (3 : Nat) (Option.some Jvm.ClassFile.FieldType.int)), (Jvm.Cond.methodLink "StableHeapLaw" (106 : Nat) ({ cls := "StableHeapLaw", name := "abort", desc := "(LStableHeap;I[J)I" } : Jvm.MethodName)), (Jvm.Cond.static ({ cls := "StableHeapLaw", name := "abort", desc := "(LStableHeap;I[J)I" } : Jvm.MethodName)), (Jvm.Cond.codeWith ({ cls := "StableHeapLaw", name := "abort", desc := "(LStableHeap;I[J)I" } : Jvm.MethodName) method_12_code (4 : Nat) (Option.some Jvm.ClassFile.FieldType.int) [((0 : Nat), (9 : Nat), (12 : Nat), (21 : Nat))]), (Jvm.Cond.methodLink "StableHeapLaw" (53 : Nat) ({ cls := "StableHeap", name := "abort", desc := "(I)I" } : Jvm.MethodName)), (Jvm.Cond.instanceMethod ({ cls := "StableHeap", name := "abort", desc := "(I)I" } : Jvm.MethodName)), (Jvm.Cond.selects "StableHeap" ({ cls := "StableHeap", name := "abort", desc := "(I)I" } : Jvm.MethodName) ({ cls := "StableHeap", name := "abort", desc := "(I)I" } : Jvm.MethodName)), (Jvm.Cond.code ({ cls := "StableHeap", name := "abort", desc := "(I)I" } : Jvm.MethodName) prog_1_method_11_code (2 : Nat) (Option.some Jvm.ClassFile.FieldType.int)), (Jvm.Cond.methodLink "StableHeapLaw" (121 : Nat) ({ cls := "StableHeapLaw", name := "fields", desc := "(LStableHeap;I[J)I" } : Jvm.MethodName)), (Jvm.Cond.static ({ cls := "StableHeapLaw", name := "fields", desc := "(LStableHeap;I[J)I" } : Jvm.MethodName)), (Jvm.Cond.codeWith ({ cls := "StableHeapLaw", name := "fields", desc := "(LStableHeap;I[J)I" } : Jvm.MethodName) method_13_code (4 : Nat) (Option.some Jvm.ClassFile.FieldType.int) [((0 : Nat), (9 : Nat), (12 : Nat), (21 : Nat))]), (Jvm.Cond.methodLink "StableHeapLaw" (56 : Nat) ({ cls := "StableHeap", name := "fields", desc := "(I)I" } : Jvm.MethodName)), (Jvm.Cond.instanceMethod ({ cls := "StableHeap", name := "fields", desc := "(I)I" } : Jvm.MethodName)), (Jvm.Cond.selects "StableHeap" ({ cls := "StableHeap", name := "fields", desc := "(I)I" } : Jvm.MethodName) ({ cls := "StableHeap", name := "fields", desc := "(I)I" } : Jvm.MethodName)), (Jvm.Cond.code ({ cls := "StableHeap", name := "fields", desc := "(I)I" } : Jvm.MethodName) prog_1_method_15_code (2 : Nat) (Option.some Jvm.ClassFile.FieldType.int)), (Jvm.Cond.methodLink "StableHeapLaw" (124 : Nat) ({ cls := "StableHeapLaw", name := "lockedBy", desc := "(LStableHeap;II[J)I" } : Jvm.MethodName)), (Jvm.Cond.static ({ cls := "StableHeapLaw", name := "lockedBy", desc := "(LStableHeap;II[J)I" } : Jvm.MethodName)), (Jvm.Cond.codeWith ({ cls := "StableHeapLaw", name := "lockedBy", desc := "(LStableHeap;II[J)I" } : Jvm.MethodName) method_14_code (5 : Nat) (Option.some Jvm.ClassFile.FieldType.int) [((0 : Nat), (10 : Nat), (13 : Nat), (21 : Nat))]), (Jvm.Cond.methodLink "StableHeapLaw" (59 : Nat) ({ cls := "StableHeap", name := "lockedBy", desc := "(II)I" } : Jvm.MethodName)), (Jvm.Cond.instanceMethod ({ cls := "StableHeap", name := "lockedBy", desc := "(II)I" } : Jvm.MethodName)), (Jvm.Cond.selects "StableHeap" ({ cls := "StableHeap", name := "lockedBy", desc := "(II)I" } : Jvm.MethodName) ({ cls := "StableHeap", name := "lockedBy", desc := "(II)I" } : Jvm.MethodName)), (Jvm.Cond.code ({ cls := "StableHeap", name := "lockedBy", desc := "(II)I" } : Jvm.MethodName) prog_1_method_16_code (3 : Nat) (Option.some Jvm.ClassFile.FieldType.int)), (Jvm.Cond.methodLink "StableHeapLaw" (127 : Nat) ({ cls := "StableHeapLaw", name := "count", desc := "(LStableHeap;I[J)I" } : Jvm.MethodName)), (Jvm.Cond.static ({ cls := "StableHeapLaw", name := "count", desc := "(LStableHeap;I[J)I" } : Jvm.MethodName)), (Jvm.Cond.codeWith ({ cls := "StableHeapLaw", name := "count", desc := "(LStableHeap;I[J)I" } : Jvm.MethodName) method_15_code (4 : Nat) (Option.some Jvm.ClassFile.FieldType.int) [((0 : Nat), (9 : Nat), (12 : Nat), (23 : Nat))]), (Jvm.Cond.methodLink "StableHeapLaw" (62 : Nat) ({ cls := "StableHeap", name := "count", desc := "(I)I" } : Jvm.MethodName)), (Jvm.Cond.instanceMethod ({ cls := "StableHeap", name := "count", desc := "(I)I" } : Jvm.MethodName)), (Jvm.Cond.selects "StableHeap" ({ cls := "StableHeap", name := "count", desc := "(I)I" } : Jvm.MethodName) ({ cls := "StableHeap", name := "count", desc := "(I)I" } : Jvm.MethodName)), (Jvm.Cond.code ({ cls := "StableHeap", name := "count", desc := "(I)I" } : Jvm.MethodName) prog_1_method_17_code (2 : Nat) (Option.some Jvm.ClassFile.FieldType.int)), (Jvm.Cond.methodLink "StableHeap" (167 : Nat) ({ cls := "StableHeap", name := "activeTransactions", desc := "()I" } : Jvm.MethodName)), (Jvm.Cond.instanceMethod ({ cls := "StableHeap", name := "activeTransactions", desc := "()I" } : Jvm.MethodName)), (Jvm.Cond.code ({ cls := "StableHeap", name := "activeTransactions", desc := "()I" } : Jvm.MethodName) prog_1_method_20_code (3 : Nat) (Option.some Jvm.ClassFile.FieldType.int)), (Jvm.Cond.classLink "StableHeapLaw" (66 : Nat) "StableHeapModel"), (Jvm.Cond.instantiable "StableHeapModel" (21 : Nat)), (Jvm.Cond.methodLink "StableHeapLaw" (68 : Nat) ({ cls := "StableHeapModel", name := "<init>", desc := "()V" } : Jvm.MethodName)), (Jvm.Cond.instanceMethod ({ cls := "StableHeapModel", name := "<init>", desc := "()V" } : Jvm.MethodName)), (Jvm.Cond.code ({ cls := "StableHeapModel", name := "<init>", desc := "()V" } : Jvm.MethodName) prog_6_method_1_code (1 : Nat) (Option.none : Option Jvm.ClassFile.FieldType)), (Jvm.Cond.methodLink "StableHeapModel" (1 : Nat) ({ cls := "java/lang/Object", name := "<init>", desc := "()V" } : Jvm.MethodName)), (Jvm.Cond.fieldLink "StableHeapModel" (53 : Nat) "StableHeapModel" "code" "I"), (Jvm.Cond.fieldLink "StableHeapModel" (7 : Nat) "StableHeapModel" "handle" "[I"), (Jvm.Cond.fieldLink "StableHeapModel" (13 : Nat) "StableHeapModel" "size" "[I"), (Jvm.Cond.fieldLink "StableHeapModel" (16 : Nat) "StableHeapModel" "lock" "[I"), (Jvm.Cond.fieldLink "StableHeapModel" (19 : Nat) "StableHeapModel" "refers" "[Z"), (Jvm.Cond.fieldLink "StableHeapModel" (23 : Nat) "StableHeapModel" "value" "[I"), (Jvm.Cond.fieldLink "StableHeapModel" (26 : Nat) "StableHeapModel" "held" "[Z"), (Jvm.Cond.fieldLink "StableHeapModel" (29 : Nat) "StableHeapModel" "root" "[I"), (Jvm.Cond.fieldLink "StableHeapModel" (32 : Nat) "StableHeapModel" "rootLock" "[I"), (Jvm.Cond.fieldLink "StableHeapModel" (84 : Nat) "StableHeapModel" "given" "I")]
def TB_10 : List Cond := [(Jvm.Cond.fieldLink "StableHeapModel" (81 : Nat) "StableHeapModel" "used" "I"), (Jvm.Cond.fieldLink "StableHeapModel" (35 : Nat) "StableHeapModel" "active" "[I"), (Jvm.Cond.fieldLink "StableHeapModel" (38 : Nat) "StableHeapModel" "words" "[I"), (Jvm.Cond.fieldLink "StableHeapModel" (71 : Nat) "StableHeapModel" "begun" "I"), (Jvm.Cond.fieldLink "StableHeapModel" (57 : Nat) "StableHeapModel" "settled" "I"), (Jvm.Cond.fieldLink "StableHeapModel" (144 : Nat) "StableHeapModel" "flips" "I"), (Jvm.Cond.fieldLink "StableHeapModel" (41 : Nat) "StableHeapModel" "undoBy" "[I"), (Jvm.Cond.fieldLink "StableHeapModel" (44 : Nat) "StableHeapModel" "undoCell" "[I"), (Jvm.Cond.fieldLink "StableHeapModel" (47 : Nat) "StableHeapModel" "undoRefers" "[Z"), (Jvm.Cond.fieldLink "StableHeapModel" (50 : Nat) "StableHeapModel" "undoValue" "[I"), (Jvm.Cond.fieldLink "StableHeapModel" (90 : Nat) "StableHeapModel" "undos" "I"), (Jvm.Cond.lays "StableHeapModel" "StableHeapModel" "code" "I"), (Jvm.Cond.soleField "StableHeapModel" "code"), (Jvm.Cond.laysFinal "StableHeapModel" "StableHeapModel" "handle" "[I"), (Jvm.Cond.soleField "StableHeapModel" "handle"), (Jvm.Cond.laysFinal "StableHeapModel" "StableHeapModel" "size" "[I"), (Jvm.Cond.soleField "StableHeapModel" "size"), (Jvm.Cond.laysFinal "StableHeapModel" "StableHeapModel" "lock" "[I"), (Jvm.Cond.soleField "StableHeapModel" "lock"), (Jvm.Cond.laysFinal "StableHeapModel" "StableHeapModel" "refers" "[Z"), (Jvm.Cond.soleField "StableHeapModel" "refers"), (Jvm.Cond.laysFinal "StableHeapModel" "StableHeapModel" "value" "[I"), (Jvm.Cond.soleField "StableHeapModel" "value"), (Jvm.Cond.laysFinal "StableHeapModel" "StableHeapModel" "held" "[Z"), (Jvm.Cond.soleField "StableHeapModel" "held"), (Jvm.Cond.laysFinal "StableHeapModel" "StableHeapModel" "root" "[I"), (Jvm.Cond.soleField "StableHeapModel" "root"), (Jvm.Cond.laysFinal "StableHeapModel" "StableHeapModel" "rootLock" "[I"), (Jvm.Cond.soleField "StableHeapModel" "rootLock"), (Jvm.Cond.lays "StableHeapModel" "StableHeapModel" "given" "I"), (Jvm.Cond.soleField "StableHeapModel" "given"), (Jvm.Cond.lays "StableHeapModel" "StableHeapModel" "used" "I"), (Jvm.Cond.soleField "StableHeapModel" "used"), (Jvm.Cond.laysFinal "StableHeapModel" "StableHeapModel" "active" "[I"), (Jvm.Cond.soleField "StableHeapModel" "active"), (Jvm.Cond.laysFinal "StableHeapModel" "StableHeapModel" "words" "[I"), (Jvm.Cond.soleField "StableHeapModel" "words"), (Jvm.Cond.lays "StableHeapModel" "StableHeapModel" "begun" "I"), (Jvm.Cond.soleField "StableHeapModel" "begun"), (Jvm.Cond.lays "StableHeapModel" "StableHeapModel" "settled" "I"), (Jvm.Cond.soleField "StableHeapModel" "settled"), (Jvm.Cond.lays "StableHeapModel" "StableHeapModel" "flips" "I"), (Jvm.Cond.soleField "StableHeapModel" "flips"), (Jvm.Cond.laysFinal "StableHeapModel" "StableHeapModel" "undoBy" "[I"), (Jvm.Cond.soleField "StableHeapModel" "undoBy"), (Jvm.Cond.laysFinal "StableHeapModel" "StableHeapModel" "undoCell" "[I"), (Jvm.Cond.soleField "StableHeapModel" "undoCell"), (Jvm.Cond.laysFinal "StableHeapModel" "StableHeapModel" "undoRefers" "[Z"), (Jvm.Cond.soleField "StableHeapModel" "undoRefers"), (Jvm.Cond.laysFinal "StableHeapModel" "StableHeapModel" "undoValue" "[I")]
def TB_11 : List Cond := [(Jvm.Cond.soleField "StableHeapModel" "undoValue"), (Jvm.Cond.lays "StableHeapModel" "StableHeapModel" "undos" "I"), (Jvm.Cond.soleField "StableHeapModel" "undos"), (Jvm.Cond.superclass "StableHeapModel" "java/lang/Object"), (Jvm.Cond.arrayClass Jvm.ClassFile.FieldType.int), (Jvm.Cond.arrayClass Jvm.ClassFile.FieldType.boolean), (Jvm.Cond.methodLink "StableHeapLaw" (75 : Nat) ({ cls := "StableHeapModel", name := "thrown", desc := "()I" } : Jvm.MethodName)), (Jvm.Cond.instanceMethod ({ cls := "StableHeapModel", name := "thrown", desc := "()I" } : Jvm.MethodName)), (Jvm.Cond.selects "StableHeapModel" ({ cls := "StableHeapModel", name := "thrown", desc := "()I" } : Jvm.MethodName) ({ cls := "StableHeapModel", name := "thrown", desc := "()I" } : Jvm.MethodName)), (Jvm.Cond.code ({ cls := "StableHeapModel", name := "thrown", desc := "()I" } : Jvm.MethodName) prog_6_method_2_code (1 : Nat) (Option.some Jvm.ClassFile.FieldType.int)), (Jvm.Cond.methodLink "StableHeapLaw" (74 : Nat) ({ cls := "StableHeapModel", name := "begin", desc := "()I" } : Jvm.MethodName)), (Jvm.Cond.instanceMethod ({ cls := "StableHeapModel", name := "begin", desc := "()I" } : Jvm.MethodName)), (Jvm.Cond.selects "StableHeapModel" ({ cls := "StableHeapModel", name := "begin", desc := "()I" } : Jvm.MethodName) ({ cls := "StableHeapModel", name := "begin", desc := "()I" } : Jvm.MethodName)), (Jvm.Cond.code ({ cls := "StableHeapModel", name := "begin", desc := "()I" } : Jvm.MethodName) prog_6_method_9_code (2 : Nat) (Option.some Jvm.ClassFile.FieldType.int)), (Jvm.Cond.methodLink "StableHeapModel" (60 : Nat) ({ cls := "StableHeapModel", name := "actives", desc := "()I" } : Jvm.MethodName)), (Jvm.Cond.instanceMethod ({ cls := "StableHeapModel", name := "actives", desc := "()I" } : Jvm.MethodName)), (Jvm.Cond.code ({ cls := "StableHeapModel", name := "actives", desc := "()I" } : Jvm.MethodName) prog_6_method_8_code (3 : Nat) (Option.some Jvm.ClassFile.FieldType.int)), (Jvm.Cond.methodLink "StableHeapModel" (64 : Nat) ({ cls := "StableHeapModel", name := "raise", desc := "(I)I" } : Jvm.MethodName)), (Jvm.Cond.instanceMethod ({ cls := "StableHeapModel", name := "raise", desc := "(I)I" } : Jvm.MethodName)), (Jvm.Cond.code ({ cls := "StableHeapModel", name := "raise", desc := "(I)I" } : Jvm.MethodName) prog_6_method_3_code (2 : Nat) (Option.some Jvm.ClassFile.FieldType.int)), (Jvm.Cond.methodLink "StableHeapModel" (68 : Nat) ({ cls := "StableHeapModel", name := "log", desc := "()I" } : Jvm.MethodName)), (Jvm.Cond.instanceMethod ({ cls := "StableHeapModel", name := "log", desc := "()I" } : Jvm.MethodName)), (Jvm.Cond.code ({ cls := "StableHeapModel", name := "log", desc := "()I" } : Jvm.MethodName) prog_6_method_7_code (1 : Nat) (Option.some Jvm.ClassFile.FieldType.int)), (Jvm.Cond.methodLink "StableHeapLaw" (81 : Nat) ({ cls := "StableHeapModel", name := "make", desc := "(II)I" } : Jvm.MethodName)), (Jvm.Cond.instanceMethod ({ cls := "StableHeapModel", name := "make", desc := "(II)I" } : Jvm.MethodName)), (Jvm.Cond.selects "StableHeapModel" ({ cls := "StableHeapModel", name := "make", desc := "(II)I" } : Jvm.MethodName) ({ cls := "StableHeapModel", name := "make", desc := "(II)I" } : Jvm.MethodName)), (Jvm.Cond.code ({ cls := "StableHeapModel", name := "make", desc := "(II)I" } : Jvm.MethodName) prog_6_method_10_code (6 : Nat) (Option.some Jvm.ClassFile.FieldType.int)), (Jvm.Cond.methodLink "StableHeapModel" (74 : Nat) ({ cls := "StableHeapModel", name := "place", desc := "(I)I" } : Jvm.MethodName)), (Jvm.Cond.instanceMethod ({ cls := "StableHeapModel", name := "place", desc := "(I)I" } : Jvm.MethodName)), (Jvm.Cond.code ({ cls := "StableHeapModel", name := "place", desc := "(I)I" } : Jvm.MethodName) prog_6_method_5_code (3 : Nat) (Option.some Jvm.ClassFile.FieldType.int)), (Jvm.Cond.methodLink "StableHeapModel" (77 : Nat) ({ cls := "StableHeapModel", name := "out", desc := "(II)Z" } : Jvm.MethodName)), (Jvm.Cond.static ({ cls := "StableHeapModel", name := "out", desc := "(II)Z" } : Jvm.MethodName)), (Jvm.Cond.code ({ cls := "StableHeapModel", name := "out", desc := "(II)Z" } : Jvm.MethodName) prog_6_method_4_code (2 : Nat) (Option.some Jvm.ClassFile.FieldType.boolean)), (Jvm.Cond.methodLink "StableHeapLaw" (85 : Nat) ({ cls := "StableHeapModel", name := "setInt", desc := "(IIII)I" } : Jvm.MethodName)), (Jvm.Cond.instanceMethod ({ cls := "StableHeapModel", name := "setInt", desc := "(IIII)I" } : Jvm.MethodName)), (Jvm.Cond.selects "StableHeapModel" ({ cls := "StableHeapModel", name := "setInt", desc := "(IIII)I" } : Jvm.MethodName) ({ cls := "StableHeapModel", name := "setInt", desc := "(IIII)I" } : Jvm.MethodName)), (Jvm.Cond.code ({ cls := "StableHeapModel", name := "setInt", desc := "(IIII)I" } : Jvm.MethodName) prog_6_method_17_code (6 : Nat) (Option.some Jvm.ClassFile.FieldType.int)), (Jvm.Cond.methodLink "StableHeapModel" (104 : Nat) ({ cls := "StableHeapModel", name := "cell", desc := "(III)I" } : Jvm.MethodName)), (Jvm.Cond.instanceMethod ({ cls := "StableHeapModel", name := "cell", desc := "(III)I" } : Jvm.MethodName)), (Jvm.Cond.code ({ cls := "StableHeapModel", name := "cell", desc := "(III)I" } : Jvm.MethodName) prog_6_method_11_code (5 : Nat) (Option.some Jvm.ClassFile.FieldType.int)), (Jvm.Cond.methodLink "StableHeapModel" (87 : Nat) ({ cls := "StableHeapModel", name := "row", desc := "(I)I" } : Jvm.MethodName)), (Jvm.Cond.instanceMethod ({ cls := "StableHeapModel", name := "row", desc := "(I)I" } : Jvm.MethodName)), (Jvm.Cond.code ({ cls := "StableHeapModel", name := "row", desc := "(I)I" } : Jvm.MethodName) prog_6_method_6_code (3 : Nat) (Option.some Jvm.ClassFile.FieldType.int)), (Jvm.Cond.methodLink "StableHeapModel" (108 : Nat) ({ cls := "StableHeapModel", name := "set", desc := "(IIZI)I" } : Jvm.MethodName)), (Jvm.Cond.instanceMethod ({ cls := "StableHeapModel", name := "set", desc := "(IIZI)I" } : Jvm.MethodName)), (Jvm.Cond.code ({ cls := "StableHeapModel", name := "set", desc := "(IIZI)I" } : Jvm.MethodName) prog_6_method_16_code (5 : Nat) (Option.some Jvm.ClassFile.FieldType.int)), (Jvm.Cond.methodLink "StableHeapModel" (93 : Nat) ({ cls := "StableHeapModel", name := "replaced", desc := "(II)Z" } : Jvm.MethodName)), (Jvm.Cond.instanceMethod ({ cls := "StableHeapModel", name := "replaced", desc := "(II)Z" } : Jvm.MethodName)), (Jvm.Cond.code ({ cls := "StableHeapModel", name := "replaced", desc := "(II)Z" } : Jvm.MethodName) prog_6_method_14_code (4 : Nat) (Option.some Jvm.ClassFile.FieldType.boolean)), (Jvm.Cond.methodLink "StableHeapModel" (96 : Nat) ({ cls := "StableHeapModel", name := "lockCell", desc := "(II)V" } : Jvm.MethodName))]
def TB_12 : List Cond := [(Jvm.Cond.instanceMethod ({ cls := "StableHeapModel", name := "lockCell", desc := "(II)V" } : Jvm.MethodName)), (Jvm.Cond.code ({ cls := "StableHeapModel", name := "lockCell", desc := "(II)V" } : Jvm.MethodName) prog_6_method_13_code (3 : Nat) (Option.none : Option Jvm.ClassFile.FieldType)), (Jvm.Cond.methodLink "StableHeapModel" (100 : Nat) ({ cls := "StableHeapModel", name := "assign", desc := "(IZI)V" } : Jvm.MethodName)), (Jvm.Cond.instanceMethod ({ cls := "StableHeapModel", name := "assign", desc := "(IZI)V" } : Jvm.MethodName)), (Jvm.Cond.code ({ cls := "StableHeapModel", name := "assign", desc := "(IZI)V" } : Jvm.MethodName) prog_6_method_15_code (4 : Nat) (Option.none : Option Jvm.ClassFile.FieldType)), (Jvm.Cond.methodLink "StableHeapLaw" (88 : Nat) ({ cls := "StableHeapModel", name := "setReference", desc := "(IIII)I" } : Jvm.MethodName)), (Jvm.Cond.instanceMethod ({ cls := "StableHeapModel", name := "setReference", desc := "(IIII)I" } : Jvm.MethodName)), (Jvm.Cond.selects "StableHeapModel" ({ cls := "StableHeapModel", name := "setReference", desc := "(IIII)I" } : Jvm.MethodName) ({ cls := "StableHeapModel", name := "setReference", desc := "(IIII)I" } : Jvm.MethodName)), (Jvm.Cond.code ({ cls := "StableHeapModel", name := "setReference", desc := "(IIII)I" } : Jvm.MethodName) prog_6_method_19_code (5 : Nat) (Option.some Jvm.ClassFile.FieldType.int)), (Jvm.Cond.methodLink "StableHeapModel" (112 : Nat) ({ cls := "StableHeapModel", name := "refer", desc := "(III)I" } : Jvm.MethodName)), (Jvm.Cond.instanceMethod ({ cls := "StableHeapModel", name := "refer", desc := "(III)I" } : Jvm.MethodName)), (Jvm.Cond.code ({ cls := "StableHeapModel", name := "refer", desc := "(III)I" } : Jvm.MethodName) prog_6_method_18_code (4 : Nat) (Option.some Jvm.ClassFile.FieldType.int)), (Jvm.Cond.methodLink "StableHeapLaw" (92 : Nat) ({ cls := "StableHeapModel", name := "setRoot", desc := "(III)I" } : Jvm.MethodName)), (Jvm.Cond.instanceMethod ({ cls := "StableHeapModel", name := "setRoot", desc := "(III)I" } : Jvm.MethodName)), (Jvm.Cond.selects "StableHeapModel" ({ cls := "StableHeapModel", name := "setRoot", desc := "(III)I" } : Jvm.MethodName) ({ cls := "StableHeapModel", name := "setRoot", desc := "(III)I" } : Jvm.MethodName)), (Jvm.Cond.code ({ cls := "StableHeapModel", name := "setRoot", desc := "(III)I" } : Jvm.MethodName) prog_6_method_20_code (4 : Nat) (Option.some Jvm.ClassFile.FieldType.int)), (Jvm.Cond.methodLink "StableHeapModel" (115 : Nat) ({ cls := "StableHeapModel", name := "rootCell", desc := "(II)I" } : Jvm.MethodName)), (Jvm.Cond.instanceMethod ({ cls := "StableHeapModel", name := "rootCell", desc := "(II)I" } : Jvm.MethodName)), (Jvm.Cond.code ({ cls := "StableHeapModel", name := "rootCell", desc := "(II)I" } : Jvm.MethodName) prog_6_method_12_code (3 : Nat) (Option.some Jvm.ClassFile.FieldType.int)), (Jvm.Cond.methodLink "StableHeapLaw" (95 : Nat) ({ cls := "StableHeapModel", name := "getInt", desc := "(III)I" } : Jvm.MethodName)), (Jvm.Cond.instanceMethod ({ cls := "StableHeapModel", name := "getInt", desc := "(III)I" } : Jvm.MethodName)), (Jvm.Cond.selects "StableHeapModel" ({ cls := "StableHeapModel", name := "getInt", desc := "(III)I" } : Jvm.MethodName) ({ cls := "StableHeapModel", name := "getInt", desc := "(III)I" } : Jvm.MethodName)), (Jvm.Cond.code ({ cls := "StableHeapModel", name := "getInt", desc := "(III)I" } : Jvm.MethodName) prog_6_method_22_code (4 : Nat) (Option.some Jvm.ClassFile.FieldType.int)), (Jvm.Cond.methodLink "StableHeapModel" (119 : Nat) ({ cls := "StableHeapModel", name := "get", desc := "(IIIZ)I" } : Jvm.MethodName)), (Jvm.Cond.instanceMethod ({ cls := "StableHeapModel", name := "get", desc := "(IIIZ)I" } : Jvm.MethodName)), (Jvm.Cond.code ({ cls := "StableHeapModel", name := "get", desc := "(IIIZ)I" } : Jvm.MethodName) prog_6_method_21_code (6 : Nat) (Option.some Jvm.ClassFile.FieldType.int)), (Jvm.Cond.methodLink "StableHeapLaw" (98 : Nat) ({ cls := "StableHeapModel", name := "getReference", desc := "(III)I" } : Jvm.MethodName)), (Jvm.Cond.instanceMethod ({ cls := "StableHeapModel", name := "getReference", desc := "(III)I" } : Jvm.MethodName)), (Jvm.Cond.selects "StableHeapModel" ({ cls := "StableHeapModel", name := "getReference", desc := "(III)I" } : Jvm.MethodName) ({ cls := "StableHeapModel", name := "getReference", desc := "(III)I" } : Jvm.MethodName)), (Jvm.Cond.code ({ cls := "StableHeapModel", name := "getReference", desc := "(III)I" } : Jvm.MethodName) prog_6_method_23_code (4 : Nat) (Option.some Jvm.ClassFile.FieldType.int)), (Jvm.Cond.methodLink "StableHeapLaw" (101 : Nat) ({ cls := "StableHeapModel", name := "getRoot", desc := "(II)I" } : Jvm.MethodName)), (Jvm.Cond.instanceMethod ({ cls := "StableHeapModel", name := "getRoot", desc := "(II)I" } : Jvm.MethodName)), (Jvm.Cond.selects "StableHeapModel" ({ cls := "StableHeapModel", name := "getRoot", desc := "(II)I" } : Jvm.MethodName) ({ cls := "StableHeapModel", name := "getRoot", desc := "(II)I" } : Jvm.MethodName)), (Jvm.Cond.code ({ cls := "StableHeapModel", name := "getRoot", desc := "(II)I" } : Jvm.MethodName) prog_6_method_24_code (4 : Nat) (Option.some Jvm.ClassFile.FieldType.int)), (Jvm.Cond.methodLink "StableHeapLaw" (105 : Nat) ({ cls := "StableHeapModel", name := "commit", desc := "(I)I" } : Jvm.MethodName)), (Jvm.Cond.instanceMethod ({ cls := "StableHeapModel", name := "commit", desc := "(I)I" } : Jvm.MethodName)), (Jvm.Cond.selects "StableHeapModel" ({ cls := "StableHeapModel", name := "commit", desc := "(I)I" } : Jvm.MethodName) ({ cls := "StableHeapModel", name := "commit", desc := "(I)I" } : Jvm.MethodName)), (Jvm.Cond.code ({ cls := "StableHeapModel", name := "commit", desc := "(I)I" } : Jvm.MethodName) prog_6_method_28_code (3 : Nat) (Option.some Jvm.ClassFile.FieldType.int)), (Jvm.Cond.methodLink "StableHeapModel" (130 : Nat) ({ cls := "StableHeapModel", name := "end", desc := "(IZ)I" } : Jvm.MethodName)), (Jvm.Cond.instanceMethod ({ cls := "StableHeapModel", name := "end", desc := "(IZ)I" } : Jvm.MethodName)), (Jvm.Cond.code ({ cls := "StableHeapModel", name := "end", desc := "(IZ)I" } : Jvm.MethodName) prog_6_method_27_code (4 : Nat) (Option.some Jvm.ClassFile.FieldType.int)), (Jvm.Cond.methodLink "StableHeapModel" (123 : Nat) ({ cls := "StableHeapModel", name := "forget", desc := "(IZ)V" } : Jvm.MethodName)), (Jvm.Cond.instanceMethod ({ cls := "StableHeapModel", name := "forget", desc := "(IZ)V" } : Jvm.MethodName)), (Jvm.Cond.code ({ cls := "StableHeapModel", name := "forget", desc := "(IZ)V" } : Jvm.MethodName) prog_6_method_26_code (5 : Nat) (Option.none : Option Jvm.ClassFile.FieldType)), (Jvm.Cond.methodLink "StableHeapModel" (127 : Nat) ({ cls := "StableHeapModel", name := "unlock", desc := "(I)I" } : Jvm.MethodName)), (Jvm.Cond.instanceMethod ({ cls := "StableHeapModel", name := "unlock", desc := "(I)I" } : Jvm.MethodName)), (Jvm.Cond.code ({ cls := "StableHeapModel", name := "unlock", desc := "(I)I" } : Jvm.MethodName) prog_6_method_25_code (4 : Nat) (Option.some Jvm.ClassFile.FieldType.int)), (Jvm.Cond.methodLink "StableHeapLaw" (108 : Nat) ({ cls := "StableHeapModel", name := "abort", desc := "(I)I" } : Jvm.MethodName)), (Jvm.Cond.instanceMethod ({ cls := "StableHeapModel", name := "abort", desc := "(I)I" } : Jvm.MethodName)), (Jvm.Cond.selects "StableHeapModel" ({ cls := "StableHeapModel", name := "abort", desc := "(I)I" } : Jvm.MethodName) ({ cls := "StableHeapModel", name := "abort", desc := "(I)I" } : Jvm.MethodName))]
def TB_13 : List Cond := [(Jvm.Cond.code ({ cls := "StableHeapModel", name := "abort", desc := "(I)I" } : Jvm.MethodName) prog_6_method_29_code (3 : Nat) (Option.some Jvm.ClassFile.FieldType.int)), (Jvm.Cond.methodLink "StableHeapLaw" (112 : Nat) ({ cls := "StableHeapModel", name := "checkpoint", desc := "()I" } : Jvm.MethodName)), (Jvm.Cond.instanceMethod ({ cls := "StableHeapModel", name := "checkpoint", desc := "()I" } : Jvm.MethodName)), (Jvm.Cond.selects "StableHeapModel" ({ cls := "StableHeapModel", name := "checkpoint", desc := "()I" } : Jvm.MethodName) ({ cls := "StableHeapModel", name := "checkpoint", desc := "()I" } : Jvm.MethodName)), (Jvm.Cond.code ({ cls := "StableHeapModel", name := "checkpoint", desc := "()I" } : Jvm.MethodName) prog_6_method_30_code (1 : Nat) (Option.some Jvm.ClassFile.FieldType.int)), (Jvm.Cond.methodLink "StableHeapLaw" (116 : Nat) ({ cls := "StableHeapModel", name := "crash", desc := "()I" } : Jvm.MethodName)), (Jvm.Cond.instanceMethod ({ cls := "StableHeapModel", name := "crash", desc := "()I" } : Jvm.MethodName)), (Jvm.Cond.selects "StableHeapModel" ({ cls := "StableHeapModel", name := "crash", desc := "()I" } : Jvm.MethodName) ({ cls := "StableHeapModel", name := "crash", desc := "()I" } : Jvm.MethodName)), (Jvm.Cond.code ({ cls := "StableHeapModel", name := "crash", desc := "()I" } : Jvm.MethodName) prog_6_method_31_code (4 : Nat) (Option.some Jvm.ClassFile.FieldType.int)), (Jvm.Cond.methodLink "StableHeapLaw" (120 : Nat) ({ cls := "StableHeapModel", name := "collect", desc := "(I)I" } : Jvm.MethodName)), (Jvm.Cond.instanceMethod ({ cls := "StableHeapModel", name := "collect", desc := "(I)I" } : Jvm.MethodName)), (Jvm.Cond.selects "StableHeapModel" ({ cls := "StableHeapModel", name := "collect", desc := "(I)I" } : Jvm.MethodName) ({ cls := "StableHeapModel", name := "collect", desc := "(I)I" } : Jvm.MethodName)), (Jvm.Cond.code ({ cls := "StableHeapModel", name := "collect", desc := "(I)I" } : Jvm.MethodName) prog_6_method_34_code (5 : Nat) (Option.some Jvm.ClassFile.FieldType.int)), (Jvm.Cond.methodLink "StableHeapModel" (138 : Nat) ({ cls := "StableHeapModel", name := "markHeld", desc := "()I" } : Jvm.MethodName)), (Jvm.Cond.instanceMethod ({ cls := "StableHeapModel", name := "markHeld", desc := "()I" } : Jvm.MethodName)), (Jvm.Cond.code ({ cls := "StableHeapModel", name := "markHeld", desc := "()I" } : Jvm.MethodName) prog_6_method_33_code (4 : Nat) (Option.some Jvm.ClassFile.FieldType.int)), (Jvm.Cond.methodLink "StableHeapModel" (134 : Nat) ({ cls := "StableHeapModel", name := "hold", desc := "(I)V" } : Jvm.MethodName)), (Jvm.Cond.instanceMethod ({ cls := "StableHeapModel", name := "hold", desc := "(I)V" } : Jvm.MethodName)), (Jvm.Cond.code ({ cls := "StableHeapModel", name := "hold", desc := "(I)V" } : Jvm.MethodName) prog_6_method_32_code (3 : Nat) (Option.none : Option Jvm.ClassFile.FieldType)), (Jvm.Cond.methodLink "StableHeapModel" (141 : Nat) ({ cls := "StableHeapModel", name := "crash", desc := "()I" } : Jvm.MethodName)), (Jvm.Cond.methodLink "StableHeapLaw" (123 : Nat) ({ cls := "StableHeapModel", name := "fields", desc := "(I)I" } : Jvm.MethodName)), (Jvm.Cond.instanceMethod ({ cls := "StableHeapModel", name := "fields", desc := "(I)I" } : Jvm.MethodName)), (Jvm.Cond.selects "StableHeapModel" ({ cls := "StableHeapModel", name := "fields", desc := "(I)I" } : Jvm.MethodName) ({ cls := "StableHeapModel", name := "fields", desc := "(I)I" } : Jvm.MethodName)), (Jvm.Cond.code ({ cls := "StableHeapModel", name := "fields", desc := "(I)I" } : Jvm.MethodName) prog_6_method_35_code (3 : Nat) (Option.some Jvm.ClassFile.FieldType.int)), (Jvm.Cond.methodLink "StableHeapLaw" (126 : Nat) ({ cls := "StableHeapModel", name := "lockedBy", desc := "(II)I" } : Jvm.MethodName)), (Jvm.Cond.instanceMethod ({ cls := "StableHeapModel", name := "lockedBy", desc := "(II)I" } : Jvm.MethodName)), (Jvm.Cond.selects "StableHeapModel" ({ cls := "StableHeapModel", name := "lockedBy", desc := "(II)I" } : Jvm.MethodName) ({ cls := "StableHeapModel", name := "lockedBy", desc := "(II)I" } : Jvm.MethodName)), (Jvm.Cond.code ({ cls := "StableHeapModel", name := "lockedBy", desc := "(II)I" } : Jvm.MethodName) prog_6_method_36_code (4 : Nat) (Option.some Jvm.ClassFile.FieldType.int)), (Jvm.Cond.methodLink "StableHeapLaw" (129 : Nat) ({ cls := "StableHeapModel", name := "count", desc := "(I)I" } : Jvm.MethodName)), (Jvm.Cond.instanceMethod ({ cls := "StableHeapModel", name := "count", desc := "(I)I" } : Jvm.MethodName)), (Jvm.Cond.selects "StableHeapModel" ({ cls := "StableHeapModel", name := "count", desc := "(I)I" } : Jvm.MethodName) ({ cls := "StableHeapModel", name := "count", desc := "(I)I" } : Jvm.MethodName)), (Jvm.Cond.code ({ cls := "StableHeapModel", name := "count", desc := "(I)I" } : Jvm.MethodName) prog_6_method_37_code (4 : Nat) (Option.some Jvm.ClassFile.FieldType.int)), (Jvm.Cond.arrayClass Jvm.ClassFile.FieldType.long), (Jvm.Cond.sameMethod "java/lang/Throwable" "java/lang/Throwable" "fillInStackTrace" "(I)Ljava/lang/Throwable;")]
def TB : List Cond := TB_0 ++ (TB_1 ++ (TB_2 ++ (TB_3 ++ (TB_4 ++ (TB_5 ++ (TB_6 ++ (TB_7 ++ (TB_8 ++ (TB_9 ++ (TB_10 ++ (TB_11 ++ (TB_12 ++ (TB_13)))))))))))))
theorem tb_g0 : GoodIn lw_tbl TB_0 := goodIn_r TB_0 [0, 1, 2, 3, 4, 5, 6, 7, 8, 9, 10, 11, 12, 13, 14, 15, 16, 17, 18, 19, 20, 21, 22, 23, 24, 25, 26, 27, 28, 29, 30, 31, 32, 33, 34, 35, 36, 37, 38, 39, 40, 41, 42, 43, 44, 45, 46, 47, 48, 49] (by decide +kernel) (by decide +kernel)
theorem tb_g1 : GoodIn lw_tbl TB_1 := goodIn_r TB_1 [50, 51, 52, 53, 54, 55, 56, 57, 58, 60, 61, 62, 63, 64, 65, 67, 69, 70, 71, 72, 73, 74, 75, 76, 77, 78, 79, 80, 81, 82, 83, 84, 85, 86, 87, 88, 89, 90, 91, 92, 93, 94, 95, 96, 97, 98, 99, 100, 101, 102] (by decide +kernel) (by decide +kernel)
theorem tb_g2 : GoodIn lw_tbl TB_2 := goodIn_r TB_2 [103, 104, 105, 106, 107, 108, 109, 110, 111, 112, 113, 114, 116, 118, 119, 120, 121, 122, 123, 124, 125, 126, 127, 128, 129, 130, 131, 132, 133, 134, 135, 136, 137, 138, 139, 140, 141, 142, 143, 144, 145, 146, 147, 148, 149, 150, 151, 152, 153, 154] (by decide +kernel) (by decide +kernel)
theorem tb_g3 : GoodIn lw_tbl TB_3 := goodIn_r TB_3 [155, 156, 157, 158, 159, 160, 161, 162, 163, 164, 165, 166, 167, 169, 170, 171, 172, 173, 174, 175, 176, 177, 178, 179, 181, 182, 183, 184, 185, 186, 187, 188, 189, 190, 191, 192, 193, 194, 195, 196, 197, 198, 199, 201, 202, 203, 205, 206, 207, 209] (by decide +kernel) (by decide +kernel)
theorem tb_g4 : GoodIn lw_tbl TB_4 := goodIn_r TB_4 [210, 211, 212, 214, 215, 216, 217, 218, 219, 220, 221, 222, 223, 224, 225, 226, 227, 228, 229, 230, 232, 233, 234, 235, 243, 244, 245, 246, 247, 248, 249, 250, 251, 252, 253, 254, 255, 256, 257, 258, 259, 260, 262, 264, 265, 266, 267, 268, 269, 270] (by decide +kernel) (by decide +kernel)
theorem tb_g5 : GoodIn lw_tbl TB_5 := goodIn_r TB_5 [271, 272, 273, 275, 276, 277, 279, 280, 281, 282, 283, 284, 285, 286, 287, 288, 289, 290, 291, 292, 293, 294, 295, 296, 297, 298, 299, 300, 301, 302, 303, 304, 305, 307, 308, 309, 310, 312, 313, 314, 315, 316, 317, 319, 320, 321, 322, 323, 324, 325] (by decide +kernel) (by decide +kernel)
theorem tb_g6 : GoodIn lw_tbl TB_6 := goodIn_r TB_6 [326, 327, 328, 329, 330, 331, 332, 333, 334, 336, 337, 338, 339, 341, 342, 343, 344, 345, 346, 348, 349, 350, 351, 352, 353, 354, 355, 357, 358, 359, 360, 361, 362, 364, 365, 366, 367, 368, 369, 371, 372, 373, 374, 375, 376, 377, 378, 379, 381, 382] (by decide +kernel) (by decide +kernel)
theorem tb_g7 : GoodIn lw_tbl TB_7 := goodIn_r TB_7 [383, 385, 386, 388, 389, 390, 391, 392, 394, 395, 396, 397, 398, 399, 401, 402, 403, 404, 405, 406, 407, 408, 409, 411, 412, 413, 414, 415, 417, 418, 419, 420, 421, 422, 423, 424, 425, 426, 428, 429, 431, 432, 433, 434, 435, 436, 437, 438, 439, 440] (by decide +kernel) (by decide +kernel)
theorem tb_g8 : GoodIn lw_tbl TB_8 := goodIn_r TB_8 [441, 442, 444, 445, 447, 448, 449, 450, 451, 452, 453, 454, 455, 457, 458, 459, 460, 462, 463, 464, 465, 466, 467, 469, 470, 471, 472, 473, 474, 475, 476, 477, 478, 479, 480, 481, 483, 484, 485, 486, 487, 488, 489, 490, 491, 492, 493, 494, 495, 496] (by decide +kernel) (by decide +kernel)
theorem tb_g9 : GoodIn lw_tbl TB_9 := goodIn_r TB_9 [497, 498, 499, 500, 501, 502, 503, 504, 505, 506, 507, 508, 509, 510, 511, 512, 513, 514, 515, 516, 517, 518, 519, 520, 521, 522, 523, 524, 525, 526, 527, 528, 530, 531, 533, 534, 535, 536, 537, 538, 539, 540, 541, 542, 543, 544, 545, 546, 547, 548] (by decide +kernel) (by decide +kernel)
theorem tb_g10 : GoodIn lw_tbl TB_10 := goodIn_r TB_10 [549, 550, 551, 552, 553, 554, 555, 556, 557, 558, 559, 560, 561, 562, 563, 564, 565, 566, 567, 568, 569, 570, 571, 572, 573, 574, 575, 576, 577, 578, 579, 580, 581, 582, 583, 584, 585, 586, 587, 588, 589, 590, 591, 592, 593, 594, 595, 596, 597, 598] (by decide +kernel) (by decide +kernel)
theorem tb_g11 : GoodIn lw_tbl TB_11 := goodIn_r TB_11 [599, 600, 601, 602, 603, 604, 605, 606, 607, 608, 609, 610, 611, 612, 613, 615, 616, 617, 619, 620, 621, 623, 624, 625, 626, 627, 628, 629, 631, 632, 633, 634, 635, 636, 637, 638, 639, 640, 642, 643, 644, 646, 647, 648, 650, 651, 652, 654, 655, 656] (by decide +kernel) (by decide +kernel)
theorem tb_g12 : GoodIn lw_tbl TB_12 := goodIn_r TB_12 [658, 659, 660, 662, 663, 664, 665, 666, 667, 668, 670, 671, 672, 673, 674, 675, 676, 678, 679, 680, 681, 682, 683, 684, 686, 687, 688, 689, 690, 691, 692, 693, 694, 695, 696, 697, 698, 699, 700, 702, 703, 704, 706, 707, 708, 710, 711, 712, 713, 714] (by decide +kernel) (by decide +kernel)
theorem tb_g13 : GoodIn lw_tbl TB_13 := goodIn_r TB_13 [715, 716, 717, 718, 719, 720, 721, 722, 723, 724, 725, 726, 727, 728, 730, 731, 732, 734, 735, 736, 737, 738, 739, 740, 741, 742, 743, 744, 745, 746, 747, 748, 749, 750] (by decide +kernel) (by decide +kernel)
theorem tb_ok : GoodIn lw_tbl TB := goodIn_app tb_g0 (goodIn_app tb_g1 (goodIn_app tb_g2 (goodIn_app tb_g3 (goodIn_app tb_g4 (goodIn_app tb_g5 (goodIn_app tb_g6 (goodIn_app tb_g7 (goodIn_app tb_g8 (goodIn_app tb_g9 (goodIn_app tb_g10 (goodIn_app tb_g11 (goodIn_app tb_g12 (tb_g13)))))))))))))
theorem tb_m0 {w : Cond} (h : w ∈ TB_0) : w ∈ TB := List.mem_append_left _ h
theorem tb_m1 {w : Cond} (h : w ∈ TB_1) : w ∈ TB := List.mem_append_right _ (List.mem_append_left _ h)
theorem tb_m2 {w : Cond} (h : w ∈ TB_2) : w ∈ TB := List.mem_append_right _ (List.mem_append_right _ (List.mem_append_left _ h))
theorem tb_m3 {w : Cond} (h : w ∈ TB_3) : w ∈ TB := List.mem_append_right _ (List.mem_append_right _ (List.mem_append_right _ (List.mem_append_left _ h)))
theorem tb_m4 {w : Cond} (h : w ∈ TB_4) : w ∈ TB := List.mem_append_right _ (List.mem_append_right _ (List.mem_append_right _ (List.mem_append_right _ (List.mem_append_left _ h))))
theorem tb_m5 {w : Cond} (h : w ∈ TB_5) : w ∈ TB := List.mem_append_right _ (List.mem_append_right _ (List.mem_append_right _ (List.mem_append_right _ (List.mem_append_right _ (List.mem_append_left _ h)))))
theorem tb_m6 {w : Cond} (h : w ∈ TB_6) : w ∈ TB := List.mem_append_right _ (List.mem_append_right _ (List.mem_append_right _ (List.mem_append_right _ (List.mem_append_right _ (List.mem_append_right _ (List.mem_append_left _ h))))))
theorem tb_m7 {w : Cond} (h : w ∈ TB_7) : w ∈ TB := List.mem_append_right _ (List.mem_append_right _ (List.mem_append_right _ (List.mem_append_right _ (List.mem_append_right _ (List.mem_append_right _ (List.mem_append_right _ (List.mem_append_left _ h)))))))
theorem tb_m8 {w : Cond} (h : w ∈ TB_8) : w ∈ TB := List.mem_append_right _ (List.mem_append_right _ (List.mem_append_right _ (List.mem_append_right _ (List.mem_append_right _ (List.mem_append_right _ (List.mem_append_right _ (List.mem_append_right _ (List.mem_append_left _ h))))))))
theorem tb_m9 {w : Cond} (h : w ∈ TB_9) : w ∈ TB := List.mem_append_right _ (List.mem_append_right _ (List.mem_append_right _ (List.mem_append_right _ (List.mem_append_right _ (List.mem_append_right _ (List.mem_append_right _ (List.mem_append_right _ (List.mem_append_right _ (List.mem_append_left _ h)))))))))
theorem tb_m10 {w : Cond} (h : w ∈ TB_10) : w ∈ TB := List.mem_append_right _ (List.mem_append_right _ (List.mem_append_right _ (List.mem_append_right _ (List.mem_append_right _ (List.mem_append_right _ (List.mem_append_right _ (List.mem_append_right _ (List.mem_append_right _ (List.mem_append_right _ (List.mem_append_left _ h))))))))))
theorem tb_m11 {w : Cond} (h : w ∈ TB_11) : w ∈ TB := List.mem_append_right _ (List.mem_append_right _ (List.mem_append_right _ (List.mem_append_right _ (List.mem_append_right _ (List.mem_append_right _ (List.mem_append_right _ (List.mem_append_right _ (List.mem_append_right _ (List.mem_append_right _ (List.mem_append_right _ (List.mem_append_left _ h)))))))))))
theorem tb_m12 {w : Cond} (h : w ∈ TB_12) : w ∈ TB := List.mem_append_right _ (List.mem_append_right _ (List.mem_append_right _ (List.mem_append_right _ (List.mem_append_right _ (List.mem_append_right _ (List.mem_append_right _ (List.mem_append_right _ (List.mem_append_right _ (List.mem_append_right _ (List.mem_append_right _ (List.mem_append_right _ (List.mem_append_left _ h))))))))))))
theorem tb_m13 {w : Cond} (h : w ∈ TB_13) : w ∈ TB := List.mem_append_right _ (List.mem_append_right _ (List.mem_append_right _ (List.mem_append_right _ (List.mem_append_right _ (List.mem_append_right _ (List.mem_append_right _ (List.mem_append_right _ (List.mem_append_right _ (List.mem_append_right _ (List.mem_append_right _ (List.mem_append_right _ (List.mem_append_right _ (h)))))))))))))
theorem tb_good : ∀ w ∈ TB, (w.onTables && w.keeps) = true ∨ ∃ ty, w = .arrayClass ty := fun w h => (tb_ok w h).2
theorem tb_V {own C : String} {index n : Nat} {y : MethodName} {c : ByteArray} {ret : Option FieldType} (h1 : Cond.methodLink own index y ∈ TB) (h2 : Cond.instanceMethod y ∈ TB) (h3 : Cond.selects C y y ∈ TB) (h4 : Cond.initialized C ∈ TB) (h5 : Cond.code y c n ret ∈ TB) : GoodIn TB (wsV own index C y (Cond.code y c n ret :: TB)) := by
  have key : ∀ w ∈ wsV own index C y (Cond.code y c n ret :: TB), w ∈ TB := by
    intro w hw
    rcases List.mem_append.mp hw with h | h
    · simp only [List.mem_cons, List.not_mem_nil, or_false] at h
      rcases h with rfl | rfl | rfl | rfl
      · exact h1
      · exact h2
      · exact h3
      · exact h4
    · rcases List.mem_cons.mp h with rfl | h
      · exact h5
      · exact h
  exact fun w hw => ⟨key w hw, tb_good w (key w hw)⟩
theorem tb_S {own : String} {index n : Nat} {y : MethodName} {c : ByteArray} {ret : Option FieldType} (h1 : Cond.methodLink own index y ∈ TB) (h2 : Cond.static y ∈ TB) (h4 : Cond.initialized y.cls ∈ TB) (h5 : Cond.code y c n ret ∈ TB) : GoodIn TB (va_wsS own index y (Cond.code y c n ret :: TB)) := by
  have key : ∀ w ∈ va_wsS own index y (Cond.code y c n ret :: TB), w ∈ TB := by
    intro w hw
    rcases List.mem_append.mp hw with h | h
    · simp only [List.mem_cons, List.not_mem_nil, or_false] at h
      rcases h with rfl | rfl | rfl
      · exact h1
      · exact h2
      · exact h4
    · rcases List.mem_cons.mp h with rfl | h
      · exact h5
      · exact h
  exact fun w hw => ⟨key w hw, tb_good w (key w hw)⟩
theorem tb_I {n : Nat} {y : MethodName} {c : ByteArray} {ret : Option FieldType} (h5 : Cond.code y c n ret ∈ TB) : GoodIn TB (Cond.code y c n ret :: TB) := by
  have key : ∀ w ∈ Cond.code y c n ret :: TB, w ∈ TB := by
    intro w hw
    rcases List.mem_cons.mp hw with rfl | h
    · exact h5
    · exact h
  exact fun w hw => ⟨key w hw, tb_good w (key w hw)⟩
theorem mb_0 : Jvm.Cond.selects "StableHeap" ⟨"StableHeap", "wordsInLog", "()I"⟩ ⟨"StableHeap", "wordsInLog", "()I"⟩ ∈ TB := tb_m0 (List.mem_of_getElem? (i := 0) rfl)
theorem mb_1 : Jvm.Cond.selects "StableHeap" ⟨"StableHeap", "end", "(LStableHeap$Transaction;Z)I"⟩ ⟨"StableHeap", "end", "(LStableHeap$Transaction;Z)I"⟩ ∈ TB := tb_m0 (List.mem_of_getElem? (i := 1) rfl)
theorem mb_2 : Jvm.Cond.selects "StableHeap" ⟨"StableHeap", "findHeld", "()V"⟩ ⟨"StableHeap", "findHeld", "()V"⟩ ∈ TB := tb_m0 (List.mem_of_getElem? (i := 2) rfl)
theorem mb_3 : Jvm.Cond.selects "StableHeap" ⟨"StableHeap", "holdTargets", "(LStableHeap$Lockable;)V"⟩ ⟨"StableHeap", "holdTargets", "(LStableHeap$Lockable;)V"⟩ ∈ TB := tb_m0 (List.mem_of_getElem? (i := 3) rfl)
theorem mb_4 : Jvm.Cond.selects "StableHeap" ⟨"StableHeap", "hold", "(LStableHeap$Lockable;)V"⟩ ⟨"StableHeap", "hold", "(LStableHeap$Lockable;)V"⟩ ∈ TB := tb_m0 (List.mem_of_getElem? (i := 4) rfl)
theorem mb_5 : Jvm.Cond.selects "StableHeap" ⟨"StableHeap", "flip", "()V"⟩ ⟨"StableHeap", "flip", "()V"⟩ ∈ TB := tb_m0 (List.mem_of_getElem? (i := 5) rfl)
theorem mb_6 : Jvm.Cond.selects "StableHeap" ⟨"StableHeap", "unusedTransaction", "()LStableHeap$Transaction;"⟩ ⟨"StableHeap", "unusedTransaction", "()LStableHeap$Transaction;"⟩ ∈ TB := tb_m0 (List.mem_of_getElem? (i := 6) rfl)
theorem mb_7 : Jvm.Cond.selects "java/lang/Throwable" ⟨"java/lang/Throwable", "fillInStackTrace", "(I)Ljava/lang/Throwable;"⟩ ⟨"java/lang/Throwable", "fillInStackTrace", "(I)Ljava/lang/Throwable;"⟩ ∈ TB := tb_m0 (List.mem_of_getElem? (i := 7) rfl)
theorem mb_8 : Jvm.Cond.selects "StableHeap" ⟨"StableHeap", "writeRecord", "(LStableHeap$Transaction;I)V"⟩ ⟨"StableHeap", "writeRecord", "(LStableHeap$Transaction;I)V"⟩ ∈ TB := tb_m0 (List.mem_of_getElem? (i := 8) rfl)
theorem mb_9 : Jvm.Cond.selects "StableHeap" ⟨"StableHeap", "activeTransaction", "(I)LStableHeap$Transaction;"⟩ ⟨"StableHeap", "activeTransaction", "(I)LStableHeap$Transaction;"⟩ ∈ TB := tb_m0 (List.mem_of_getElem? (i := 9) rfl)
theorem mb_10 : Jvm.Cond.selects "StableHeap" ⟨"StableHeap", "objectWith", "(I)LStableHeap$Lockable;"⟩ ⟨"StableHeap", "objectWith", "(I)LStableHeap$Lockable;"⟩ ∈ TB := tb_m0 (List.mem_of_getElem? (i := 10) rfl)
theorem mb_11 : Jvm.Cond.selects "StableHeap" ⟨"StableHeap", "findObject", "(I)LStableHeap$Lockable;"⟩ ⟨"StableHeap", "findObject", "(I)LStableHeap$Lockable;"⟩ ∈ TB := tb_m0 (List.mem_of_getElem? (i := 11) rfl)
theorem mb_12 : Jvm.Cond.selects "StableHeap$Place" ⟨"StableHeap$Place", "rememberFormer", "()V"⟩ ⟨"StableHeap$Place", "rememberFormer", "()V"⟩ ∈ TB := tb_m0 (List.mem_of_getElem? (i := 12) rfl)
theorem mb_13 : Jvm.Cond.selects "StableHeap" ⟨"StableHeap", "refer", "(LStableHeap$Transaction;LStableHeap$Lockable;LStableHeap$Place;I)V"⟩ ⟨"StableHeap", "refer", "(LStableHeap$Transaction;LStableHeap$Lockable;LStableHeap$Place;I)V"⟩ ∈ TB := tb_m0 (List.mem_of_getElem? (i := 13) rfl)
theorem mb_14 : Jvm.Cond.selects "StableHeap" ⟨"StableHeap", "rootAt", "(I)LStableHeap$Lockable;"⟩ ⟨"StableHeap", "rootAt", "(I)LStableHeap$Lockable;"⟩ ∈ TB := tb_m0 (List.mem_of_getElem? (i := 14) rfl)
theorem mb_15 : Jvm.Cond.selects "StableHeap" ⟨"StableHeap", "readField", "(III)LStableHeap$Place;"⟩ ⟨"StableHeap", "readField", "(III)LStableHeap$Place;"⟩ ∈ TB := tb_m0 (List.mem_of_getElem? (i := 15) rfl)
theorem mb_16 : Jvm.Cond.selects "StableHeap" ⟨"StableHeap", "activeTransactions", "()I"⟩ ⟨"StableHeap", "activeTransactions", "()I"⟩ ∈ TB := tb_m0 (List.mem_of_getElem? (i := 16) rfl)
theorem mb_17 : Jvm.Cond.selects "StableHeapModel" ⟨"StableHeapModel", "actives", "()I"⟩ ⟨"StableHeapModel", "actives", "()I"⟩ ∈ TB := tb_m0 (List.mem_of_getElem? (i := 17) rfl)
theorem mb_18 : Jvm.Cond.selects "StableHeapModel" ⟨"StableHeapModel", "raise", "(I)I"⟩ ⟨"StableHeapModel", "raise", "(I)I"⟩ ∈ TB := tb_m0 (List.mem_of_getElem? (i := 18) rfl)
theorem mb_19 : Jvm.Cond.selects "StableHeapModel" ⟨"StableHeapModel", "log", "()I"⟩ ⟨"StableHeapModel", "log", "()I"⟩ ∈ TB := tb_m0 (List.mem_of_getElem? (i := 19) rfl)
theorem mb_20 : Jvm.Cond.selects "StableHeapModel" ⟨"StableHeapModel", "place", "(I)I"⟩ ⟨"StableHeapModel", "place", "(I)I"⟩ ∈ TB := tb_m0 (List.mem_of_getElem? (i := 20) rfl)
theorem mb_21 : Jvm.Cond.selects "StableHeapModel" ⟨"StableHeapModel", "cell", "(III)I"⟩ ⟨"StableHeapModel", "cell", "(III)I"⟩ ∈ TB := tb_m0 (List.mem_of_getElem? (i := 21) rfl)
theorem mb_22 : Jvm.Cond.selects "StableHeapModel" ⟨"StableHeapModel", "row", "(I)I"⟩ ⟨"StableHeapModel", "row", "(I)I"⟩ ∈ TB := tb_m0 (List.mem_of_getElem? (i := 22) rfl)
theorem mb_23 : Jvm.Cond.selects "StableHeapModel" ⟨"StableHeapModel", "set", "(IIZI)I"⟩ ⟨"StableHeapModel", "set", "(IIZI)I"⟩ ∈ TB := tb_m0 (List.mem_of_getElem? (i := 23) rfl)
theorem mb_24 : Jvm.Cond.selects "StableHeapModel" ⟨"StableHeapModel", "replaced", "(II)Z"⟩ ⟨"StableHeapModel", "replaced", "(II)Z"⟩ ∈ TB := tb_m0 (List.mem_of_getElem? (i := 24) rfl)
theorem mb_25 : Jvm.Cond.selects "StableHeapModel" ⟨"StableHeapModel", "lockCell", "(II)V"⟩ ⟨"StableHeapModel", "lockCell", "(II)V"⟩ ∈ TB := tb_m0 (List.mem_of_getElem? (i := 25) rfl)
theorem mb_26 : Jvm.Cond.selects "StableHeapModel" ⟨"StableHeapModel", "assign", "(IZI)V"⟩ ⟨"StableHeapModel", "assign", "(IZI)V"⟩ ∈ TB := tb_m0 (List.mem_of_getElem? (i := 26) rfl)
theorem mb_27 : Jvm.Cond.selects "StableHeapModel" ⟨"StableHeapModel", "refer", "(III)I"⟩ ⟨"StableHeapModel", "refer", "(III)I"⟩ ∈ TB := tb_m0 (List.mem_of_getElem? (i := 27) rfl)
theorem mb_28 : Jvm.Cond.selects "StableHeapModel" ⟨"StableHeapModel", "rootCell", "(II)I"⟩ ⟨"StableHeapModel", "rootCell", "(II)I"⟩ ∈ TB := tb_m0 (List.mem_of_getElem? (i := 28) rfl)
theorem mb_29 : Jvm.Cond.selects "StableHeapModel" ⟨"StableHeapModel", "get", "(IIIZ)I"⟩ ⟨"StableHeapModel", "get", "(IIIZ)I"⟩ ∈ TB := tb_m0 (List.mem_of_getElem? (i := 29) rfl)
theorem mb_30 : Jvm.Cond.selects "StableHeapModel" ⟨"StableHeapModel", "end", "(IZ)I"⟩ ⟨"StableHeapModel", "end", "(IZ)I"⟩ ∈ TB := tb_m0 (List.mem_of_getElem? (i := 30) rfl)
theorem mb_31 : Jvm.Cond.selects "StableHeapModel" ⟨"StableHeapModel", "forget", "(IZ)V"⟩ ⟨"StableHeapModel", "forget", "(IZ)V"⟩ ∈ TB := tb_m0 (List.mem_of_getElem? (i := 31) rfl)
theorem mb_32 : Jvm.Cond.selects "StableHeapModel" ⟨"StableHeapModel", "unlock", "(I)I"⟩ ⟨"StableHeapModel", "unlock", "(I)I"⟩ ∈ TB := tb_m0 (List.mem_of_getElem? (i := 32) rfl)
theorem mb_33 : Jvm.Cond.selects "StableHeapModel" ⟨"StableHeapModel", "markHeld", "()I"⟩ ⟨"StableHeapModel", "markHeld", "()I"⟩ ∈ TB := tb_m0 (List.mem_of_getElem? (i := 33) rfl)
theorem mb_34 : Jvm.Cond.selects "StableHeapModel" ⟨"StableHeapModel", "hold", "(I)V"⟩ ⟨"StableHeapModel", "hold", "(I)V"⟩ ∈ TB := tb_m0 (List.mem_of_getElem? (i := 34) rfl)
theorem mb_35 : Jvm.Cond.initialized "StableHeapLaw" ∈ TB := tb_m0 (List.mem_of_getElem? (i := 35) rfl)
theorem mb_36 : Jvm.Cond.initialized "StableHeap" ∈ TB := tb_m0 (List.mem_of_getElem? (i := 36) rfl)
theorem mb_37 : Jvm.Cond.initialized "StableHeap$Lockable" ∈ TB := tb_m0 (List.mem_of_getElem? (i := 37) rfl)
theorem mb_38 : Jvm.Cond.initialized "StableHeap$Place" ∈ TB := tb_m0 (List.mem_of_getElem? (i := 38) rfl)
theorem mb_39 : Jvm.Cond.initialized "StableHeap$Transaction" ∈ TB := tb_m0 (List.mem_of_getElem? (i := 39) rfl)
theorem mb_40 : Jvm.Cond.initialized "StableHeapModel" ∈ TB := tb_m0 (List.mem_of_getElem? (i := 40) rfl)
theorem mb_41 : Jvm.Cond.initialized "java/lang/Throwable" ∈ TB := tb_m0 (List.mem_of_getElem? (i := 41) rfl)
theorem mb_42 : Jvm.Cond.initialized "java/lang/Exception" ∈ TB := tb_m0 (List.mem_of_getElem? (i := 42) rfl)
theorem mb_43 : Jvm.Cond.initialized "java/lang/RuntimeException" ∈ TB := tb_m0 (List.mem_of_getElem? (i := 43) rfl)
theorem mb_44 : Jvm.Cond.initialized "java/lang/IllegalStateException" ∈ TB := tb_m0 (List.mem_of_getElem? (i := 44) rfl)
theorem mb_45 : Jvm.Cond.initialized "java/lang/UnsupportedOperationException" ∈ TB := tb_m0 (List.mem_of_getElem? (i := 45) rfl)
theorem mb_46 : Jvm.Cond.initialized "java/util/NoSuchElementException" ∈ TB := tb_m0 (List.mem_of_getElem? (i := 46) rfl)
theorem mb_47 : Jvm.Cond.initialized "java/lang/IllegalArgumentException" ∈ TB := tb_m0 (List.mem_of_getElem? (i := 47) rfl)
theorem mb_48 : Jvm.Cond.initialized "java/lang/IndexOutOfBoundsException" ∈ TB := tb_m0 (List.mem_of_getElem? (i := 48) rfl)
theorem mb_49 : Jvm.Cond.initialized "java/lang/ArithmeticException" ∈ TB := tb_m0 (List.mem_of_getElem? (i := 49) rfl)
theorem mb_50 : Jvm.Cond.classLink "StableHeapLaw" (8 : Nat) "StableHeap" ∈ TB := tb_m1 (List.mem_of_getElem? (i := 0) rfl)
theorem mb_51 : Jvm.Cond.instantiable "StableHeap" (11 : Nat) ∈ TB := tb_m1 (List.mem_of_getElem? (i := 1) rfl)
theorem mb_52 : Jvm.Cond.methodLink "StableHeapLaw" (65 : Nat) ({ cls := "StableHeap", name := "<init>", desc := "()V" } : Jvm.MethodName) ∈ TB := tb_m1 (List.mem_of_getElem? (i := 2) rfl)
theorem mb_53 : Jvm.Cond.instanceMethod ({ cls := "StableHeap", name := "<init>", desc := "()V" } : Jvm.MethodName) ∈ TB := tb_m1 (List.mem_of_getElem? (i := 3) rfl)
theorem mb_54 : Jvm.Cond.code ({ cls := "StableHeap", name := "<init>", desc := "()V" } : Jvm.MethodName) prog_1_method_1_code (2 : Nat) (Option.none : Option Jvm.ClassFile.FieldType) ∈ TB := tb_m1 (List.mem_of_getElem? (i := 4) rfl)
theorem mb_55 : Jvm.Cond.methodLink "StableHeap" (1 : Nat) ({ cls := "java/lang/Object", name := "<init>", desc := "()V" } : Jvm.MethodName) ∈ TB := tb_m1 (List.mem_of_getElem? (i := 5) rfl)
theorem mb_56 : Jvm.Cond.instanceMethod ({ cls := "java/lang/Object", name := "<init>", desc := "()V" } : Jvm.MethodName) ∈ TB := tb_m1 (List.mem_of_getElem? (i := 6) rfl)
theorem mb_57 : Jvm.Cond.code ({ cls := "java/lang/Object", name := "<init>", desc := "()V" } : Jvm.MethodName) object_method_1_code (1 : Nat) (Option.none : Option Jvm.ClassFile.FieldType) ∈ TB := tb_m1 (List.mem_of_getElem? (i := 7) rfl)
theorem mb_58 : Jvm.Cond.classLink "StableHeap" (9 : Nat) "StableHeap$Lockable" ∈ TB := tb_m1 (List.mem_of_getElem? (i := 8) rfl)
theorem mb_59 : Jvm.Cond.instantiable "StableHeap$Lockable" (4 : Nat) ∈ TB := tb_m1 (List.mem_of_getElem? (i := 9) rfl)
theorem mb_60 : Jvm.Cond.methodLink "StableHeap" (15 : Nat) ({ cls := "StableHeap$Lockable", name := "<init>", desc := "(II)V" } : Jvm.MethodName) ∈ TB := tb_m1 (List.mem_of_getElem? (i := 10) rfl)
theorem mb_61 : Jvm.Cond.instanceMethod ({ cls := "StableHeap$Lockable", name := "<init>", desc := "(II)V" } : Jvm.MethodName) ∈ TB := tb_m1 (List.mem_of_getElem? (i := 11) rfl)
theorem mb_62 : Jvm.Cond.code ({ cls := "StableHeap$Lockable", name := "<init>", desc := "(II)V" } : Jvm.MethodName) prog_2_method_1_code (4 : Nat) (Option.none : Option Jvm.ClassFile.FieldType) ∈ TB := tb_m1 (List.mem_of_getElem? (i := 12) rfl)
theorem mb_63 : Jvm.Cond.methodLink "StableHeap$Lockable" (1 : Nat) ({ cls := "java/lang/Object", name := "<init>", desc := "()V" } : Jvm.MethodName) ∈ TB := tb_m1 (List.mem_of_getElem? (i := 13) rfl)
theorem mb_64 : Jvm.Cond.classLink "StableHeap$Lockable" (13 : Nat) "StableHeap$Place" ∈ TB := tb_m1 (List.mem_of_getElem? (i := 14) rfl)
theorem mb_65 : Jvm.Cond.instantiable "StableHeap$Place" (7 : Nat) ∈ TB := tb_m1 (List.mem_of_getElem? (i := 15) rfl)
theorem mb_66 : Jvm.Cond.instanceMethod ({ cls := "StableHeap$Place", name := "<init>", desc := "()V" } : Jvm.MethodName) ∈ TB := tb_m1 (List.mem_of_getElem? (i := 16) rfl)
theorem mb_67 : Jvm.Cond.code ({ cls := "StableHeap$Place", name := "<init>", desc := "()V" } : Jvm.MethodName) prog_3_method_1_code (1 : Nat) (Option.none : Option Jvm.ClassFile.FieldType) ∈ TB := tb_m1 (List.mem_of_getElem? (i := 17) rfl)
theorem mb_68 : Jvm.Cond.methodLink "StableHeap$Place" (1 : Nat) ({ cls := "java/lang/Object", name := "<init>", desc := "()V" } : Jvm.MethodName) ∈ TB := tb_m1 (List.mem_of_getElem? (i := 18) rfl)
theorem mb_69 : Jvm.Cond.fieldLink "StableHeap$Place" (12 : Nat) "StableHeap$Place" "isReference" "Z" ∈ TB := tb_m1 (List.mem_of_getElem? (i := 19) rfl)
theorem mb_70 : Jvm.Cond.fieldLink "StableHeap" (111 : Nat) "StableHeap$Place" "isReference" "Z" ∈ TB := tb_m1 (List.mem_of_getElem? (i := 20) rfl)
theorem mb_71 : Jvm.Cond.fieldLink "StableHeap$Place" (16 : Nat) "StableHeap$Place" "number" "I" ∈ TB := tb_m1 (List.mem_of_getElem? (i := 21) rfl)
theorem mb_72 : Jvm.Cond.fieldLink "StableHeap" (120 : Nat) "StableHeap$Place" "number" "I" ∈ TB := tb_m1 (List.mem_of_getElem? (i := 22) rfl)
theorem mb_73 : Jvm.Cond.fieldLink "StableHeap$Place" (20 : Nat) "StableHeap$Place" "target" "LStableHeap$Lockable;" ∈ TB := tb_m1 (List.mem_of_getElem? (i := 23) rfl)
theorem mb_74 : Jvm.Cond.fieldLink "StableHeap" (123 : Nat) "StableHeap$Place" "target" "LStableHeap$Lockable;" ∈ TB := tb_m1 (List.mem_of_getElem? (i := 24) rfl)
theorem mb_75 : Jvm.Cond.fieldLink "StableHeap$Place" (24 : Nat) "StableHeap$Place" "isSet" "Z" ∈ TB := tb_m1 (List.mem_of_getElem? (i := 25) rfl)
theorem mb_76 : Jvm.Cond.fieldLink "StableHeap$Place" (27 : Nat) "StableHeap$Place" "formerIsReference" "Z" ∈ TB := tb_m1 (List.mem_of_getElem? (i := 26) rfl)
theorem mb_77 : Jvm.Cond.fieldLink "StableHeap$Place" (30 : Nat) "StableHeap$Place" "formerNumber" "I" ∈ TB := tb_m1 (List.mem_of_getElem? (i := 27) rfl)
theorem mb_78 : Jvm.Cond.fieldLink "StableHeap$Place" (33 : Nat) "StableHeap$Place" "formerTarget" "LStableHeap$Lockable;" ∈ TB := tb_m1 (List.mem_of_getElem? (i := 28) rfl)
theorem mb_79 : Jvm.Cond.fieldLink "StableHeap" (218 : Nat) "StableHeap$Place" "formerTarget" "LStableHeap$Lockable;" ∈ TB := tb_m1 (List.mem_of_getElem? (i := 29) rfl)
theorem mb_80 : Jvm.Cond.lays "StableHeap$Place" "StableHeap$Place" "isReference" "Z" ∈ TB := tb_m1 (List.mem_of_getElem? (i := 30) rfl)
theorem mb_81 : Jvm.Cond.soleField "StableHeap$Place" "isReference" ∈ TB := tb_m1 (List.mem_of_getElem? (i := 31) rfl)
theorem mb_82 : Jvm.Cond.lays "StableHeap$Place" "StableHeap$Place" "number" "I" ∈ TB := tb_m1 (List.mem_of_getElem? (i := 32) rfl)
theorem mb_83 : Jvm.Cond.soleField "StableHeap$Place" "number" ∈ TB := tb_m1 (List.mem_of_getElem? (i := 33) rfl)
theorem mb_84 : Jvm.Cond.lays "StableHeap$Place" "StableHeap$Place" "target" "LStableHeap$Lockable;" ∈ TB := tb_m1 (List.mem_of_getElem? (i := 34) rfl)
theorem mb_85 : Jvm.Cond.soleField "StableHeap$Place" "target" ∈ TB := tb_m1 (List.mem_of_getElem? (i := 35) rfl)
theorem mb_86 : Jvm.Cond.lays "StableHeap$Place" "StableHeap$Place" "isSet" "Z" ∈ TB := tb_m1 (List.mem_of_getElem? (i := 36) rfl)
theorem mb_87 : Jvm.Cond.soleField "StableHeap$Place" "isSet" ∈ TB := tb_m1 (List.mem_of_getElem? (i := 37) rfl)
theorem mb_88 : Jvm.Cond.lays "StableHeap$Place" "StableHeap$Place" "formerIsReference" "Z" ∈ TB := tb_m1 (List.mem_of_getElem? (i := 38) rfl)
theorem mb_89 : Jvm.Cond.soleField "StableHeap$Place" "formerIsReference" ∈ TB := tb_m1 (List.mem_of_getElem? (i := 39) rfl)
theorem mb_90 : Jvm.Cond.lays "StableHeap$Place" "StableHeap$Place" "formerNumber" "I" ∈ TB := tb_m1 (List.mem_of_getElem? (i := 40) rfl)
theorem mb_91 : Jvm.Cond.soleField "StableHeap$Place" "formerNumber" ∈ TB := tb_m1 (List.mem_of_getElem? (i := 41) rfl)
theorem mb_92 : Jvm.Cond.lays "StableHeap$Place" "StableHeap$Place" "formerTarget" "LStableHeap$Lockable;" ∈ TB := tb_m1 (List.mem_of_getElem? (i := 42) rfl)
theorem mb_93 : Jvm.Cond.soleField "StableHeap$Place" "formerTarget" ∈ TB := tb_m1 (List.mem_of_getElem? (i := 43) rfl)
theorem mb_94 : Jvm.Cond.superclass "StableHeap$Place" "java/lang/Object" ∈ TB := tb_m1 (List.mem_of_getElem? (i := 44) rfl)
theorem mb_95 : Jvm.Cond.fieldLink "StableHeap$Lockable" (7 : Nat) "StableHeap$Lockable" "handle" "I" ∈ TB := tb_m1 (List.mem_of_getElem? (i := 45) rfl)
theorem mb_96 : Jvm.Cond.fieldLink "StableHeap" (184 : Nat) "StableHeap$Lockable" "handle" "I" ∈ TB := tb_m1 (List.mem_of_getElem? (i := 46) rfl)
theorem mb_97 : Jvm.Cond.fieldLink "StableHeap$Lockable" (15 : Nat) "StableHeap$Lockable" "places" "[LStableHeap$Place;" ∈ TB := tb_m1 (List.mem_of_getElem? (i := 47) rfl)
theorem mb_98 : Jvm.Cond.fieldLink "StableHeap" (103 : Nat) "StableHeap$Lockable" "places" "[LStableHeap$Place;" ∈ TB := tb_m1 (List.mem_of_getElem? (i := 48) rfl)
theorem mb_99 : Jvm.Cond.fieldLink "StableHeap$Lockable" (20 : Nat) "StableHeap$Lockable" "owner" "I" ∈ TB := tb_m1 (List.mem_of_getElem? (i := 49) rfl)
theorem mb_100 : Jvm.Cond.fieldLink "StableHeap" (71 : Nat) "StableHeap$Lockable" "owner" "I" ∈ TB := tb_m2 (List.mem_of_getElem? (i := 0) rfl)
theorem mb_101 : Jvm.Cond.fieldLink "StableHeap" (209 : Nat) "StableHeap$Lockable" "isHeld" "Z" ∈ TB := tb_m2 (List.mem_of_getElem? (i := 1) rfl)
theorem mb_102 : Jvm.Cond.laysFinal "StableHeap$Lockable" "StableHeap$Lockable" "handle" "I" ∈ TB := tb_m2 (List.mem_of_getElem? (i := 2) rfl)
theorem mb_103 : Jvm.Cond.soleField "StableHeap$Lockable" "handle" ∈ TB := tb_m2 (List.mem_of_getElem? (i := 3) rfl)
theorem mb_104 : Jvm.Cond.laysFinal "StableHeap$Lockable" "StableHeap$Lockable" "places" "[LStableHeap$Place;" ∈ TB := tb_m2 (List.mem_of_getElem? (i := 4) rfl)
theorem mb_105 : Jvm.Cond.soleField "StableHeap$Lockable" "places" ∈ TB := tb_m2 (List.mem_of_getElem? (i := 5) rfl)
theorem mb_106 : Jvm.Cond.lays "StableHeap$Lockable" "StableHeap$Lockable" "owner" "I" ∈ TB := tb_m2 (List.mem_of_getElem? (i := 6) rfl)
theorem mb_107 : Jvm.Cond.soleField "StableHeap$Lockable" "owner" ∈ TB := tb_m2 (List.mem_of_getElem? (i := 7) rfl)
theorem mb_108 : Jvm.Cond.lays "StableHeap$Lockable" "StableHeap$Lockable" "isHeld" "Z" ∈ TB := tb_m2 (List.mem_of_getElem? (i := 8) rfl)
theorem mb_109 : Jvm.Cond.soleField "StableHeap$Lockable" "isHeld" ∈ TB := tb_m2 (List.mem_of_getElem? (i := 9) rfl)
theorem mb_110 : Jvm.Cond.superclass "StableHeap$Lockable" "java/lang/Object" ∈ TB := tb_m2 (List.mem_of_getElem? (i := 10) rfl)
theorem mb_111 : Jvm.Cond.classLink "StableHeap" (24 : Nat) "StableHeap$Transaction" ∈ TB := tb_m2 (List.mem_of_getElem? (i := 11) rfl)
theorem mb_112 : Jvm.Cond.instantiable "StableHeap$Transaction" (2 : Nat) ∈ TB := tb_m2 (List.mem_of_getElem? (i := 12) rfl)
theorem mb_113 : Jvm.Cond.instanceMethod ({ cls := "StableHeap$Transaction", name := "<init>", desc := "()V" } : Jvm.MethodName) ∈ TB := tb_m2 (List.mem_of_getElem? (i := 13) rfl)
theorem mb_114 : Jvm.Cond.code ({ cls := "StableHeap$Transaction", name := "<init>", desc := "()V" } : Jvm.MethodName) prog_4_method_1_code (1 : Nat) (Option.none : Option Jvm.ClassFile.FieldType) ∈ TB := tb_m2 (List.mem_of_getElem? (i := 14) rfl)
theorem mb_115 : Jvm.Cond.methodLink "StableHeap$Transaction" (1 : Nat) ({ cls := "java/lang/Object", name := "<init>", desc := "()V" } : Jvm.MethodName) ∈ TB := tb_m2 (List.mem_of_getElem? (i := 15) rfl)
theorem mb_116 : Jvm.Cond.fieldLink "StableHeap$Transaction" (7 : Nat) "StableHeap$Transaction" "number" "I" ∈ TB := tb_m2 (List.mem_of_getElem? (i := 16) rfl)
theorem mb_117 : Jvm.Cond.fieldLink "StableHeap" (43 : Nat) "StableHeap$Transaction" "number" "I" ∈ TB := tb_m2 (List.mem_of_getElem? (i := 17) rfl)
theorem mb_118 : Jvm.Cond.fieldLink "StableHeap" (134 : Nat) "StableHeap$Transaction" "words" "I" ∈ TB := tb_m2 (List.mem_of_getElem? (i := 18) rfl)
theorem mb_119 : Jvm.Cond.lays "StableHeap$Transaction" "StableHeap$Transaction" "number" "I" ∈ TB := tb_m2 (List.mem_of_getElem? (i := 19) rfl)
theorem mb_120 : Jvm.Cond.soleField "StableHeap$Transaction" "number" ∈ TB := tb_m2 (List.mem_of_getElem? (i := 20) rfl)
theorem mb_121 : Jvm.Cond.lays "StableHeap$Transaction" "StableHeap$Transaction" "words" "I" ∈ TB := tb_m2 (List.mem_of_getElem? (i := 21) rfl)
theorem mb_122 : Jvm.Cond.soleField "StableHeap$Transaction" "words" ∈ TB := tb_m2 (List.mem_of_getElem? (i := 22) rfl)
theorem mb_123 : Jvm.Cond.superclass "StableHeap$Transaction" "java/lang/Object" ∈ TB := tb_m2 (List.mem_of_getElem? (i := 23) rfl)
theorem mb_124 : Jvm.Cond.fieldLink "StableHeap" (11 : Nat) "StableHeap" "roots" "[LStableHeap$Lockable;" ∈ TB := tb_m2 (List.mem_of_getElem? (i := 24) rfl)
theorem mb_125 : Jvm.Cond.fieldLink "StableHeap" (18 : Nat) "StableHeap" "objects" "[LStableHeap$Lockable;" ∈ TB := tb_m2 (List.mem_of_getElem? (i := 25) rfl)
theorem mb_126 : Jvm.Cond.fieldLink "StableHeap" (21 : Nat) "StableHeap" "held" "[LStableHeap$Lockable;" ∈ TB := tb_m2 (List.mem_of_getElem? (i := 26) rfl)
theorem mb_127 : Jvm.Cond.fieldLink "StableHeap" (26 : Nat) "StableHeap" "transactions" "[LStableHeap$Transaction;" ∈ TB := tb_m2 (List.mem_of_getElem? (i := 27) rfl)
theorem mb_128 : Jvm.Cond.fieldLink "StableHeap" (60 : Nat) "StableHeap" "objectsThere" "I" ∈ TB := tb_m2 (List.mem_of_getElem? (i := 28) rfl)
theorem mb_129 : Jvm.Cond.fieldLink "StableHeap" (150 : Nat) "StableHeap" "objectsHeld" "I" ∈ TB := tb_m2 (List.mem_of_getElem? (i := 29) rfl)
theorem mb_130 : Jvm.Cond.fieldLink "StableHeap" (68 : Nat) "StableHeap" "handlesGiven" "I" ∈ TB := tb_m2 (List.mem_of_getElem? (i := 30) rfl)
theorem mb_131 : Jvm.Cond.fieldLink "StableHeap" (57 : Nat) "StableHeap" "wordsUsed" "I" ∈ TB := tb_m2 (List.mem_of_getElem? (i := 31) rfl)
theorem mb_132 : Jvm.Cond.fieldLink "StableHeap" (131 : Nat) "StableHeap" "wordsOfEnded" "I" ∈ TB := tb_m2 (List.mem_of_getElem? (i := 32) rfl)
theorem mb_133 : Jvm.Cond.fieldLink "StableHeap" (39 : Nat) "StableHeap" "transactionsBegun" "I" ∈ TB := tb_m2 (List.mem_of_getElem? (i := 33) rfl)
theorem mb_134 : Jvm.Cond.fieldLink "StableHeap" (170 : Nat) "StableHeap" "flips" "I" ∈ TB := tb_m2 (List.mem_of_getElem? (i := 34) rfl)
theorem mb_135 : Jvm.Cond.laysFinal "StableHeap" "StableHeap" "roots" "[LStableHeap$Lockable;" ∈ TB := tb_m2 (List.mem_of_getElem? (i := 35) rfl)
theorem mb_136 : Jvm.Cond.soleField "StableHeap" "roots" ∈ TB := tb_m2 (List.mem_of_getElem? (i := 36) rfl)
theorem mb_137 : Jvm.Cond.laysFinal "StableHeap" "StableHeap" "objects" "[LStableHeap$Lockable;" ∈ TB := tb_m2 (List.mem_of_getElem? (i := 37) rfl)
theorem mb_138 : Jvm.Cond.soleField "StableHeap" "objects" ∈ TB := tb_m2 (List.mem_of_getElem? (i := 38) rfl)
theorem mb_139 : Jvm.Cond.laysFinal "StableHeap" "StableHeap" "held" "[LStableHeap$Lockable;" ∈ TB := tb_m2 (List.mem_of_getElem? (i := 39) rfl)
theorem mb_140 : Jvm.Cond.soleField "StableHeap" "held" ∈ TB := tb_m2 (List.mem_of_getElem? (i := 40) rfl)
theorem mb_141 : Jvm.Cond.laysFinal "StableHeap" "StableHeap" "transactions" "[LStableHeap$Transaction;" ∈ TB := tb_m2 (List.mem_of_getElem? (i := 41) rfl)
theorem mb_142 : Jvm.Cond.soleField "StableHeap" "transactions" ∈ TB := tb_m2 (List.mem_of_getElem? (i := 42) rfl)
theorem mb_143 : Jvm.Cond.lays "StableHeap" "StableHeap" "objectsThere" "I" ∈ TB := tb_m2 (List.mem_of_getElem? (i := 43) rfl)
theorem mb_144 : Jvm.Cond.soleField "StableHeap" "objectsThere" ∈ TB := tb_m2 (List.mem_of_getElem? (i := 44) rfl)
theorem mb_145 : Jvm.Cond.lays "StableHeap" "StableHeap" "objectsHeld" "I" ∈ TB := tb_m2 (List.mem_of_getElem? (i := 45) rfl)
theorem mb_146 : Jvm.Cond.soleField "StableHeap" "objectsHeld" ∈ TB := tb_m2 (List.mem_of_getElem? (i := 46) rfl)
theorem mb_147 : Jvm.Cond.lays "StableHeap" "StableHeap" "handlesGiven" "I" ∈ TB := tb_m2 (List.mem_of_getElem? (i := 47) rfl)
theorem mb_148 : Jvm.Cond.soleField "StableHeap" "handlesGiven" ∈ TB := tb_m2 (List.mem_of_getElem? (i := 48) rfl)
theorem mb_149 : Jvm.Cond.lays "StableHeap" "StableHeap" "wordsUsed" "I" ∈ TB := tb_m2 (List.mem_of_getElem? (i := 49) rfl)
theorem mb_150 : Jvm.Cond.soleField "StableHeap" "wordsUsed" ∈ TB := tb_m3 (List.mem_of_getElem? (i := 0) rfl)
theorem mb_151 : Jvm.Cond.lays "StableHeap" "StableHeap" "wordsOfEnded" "I" ∈ TB := tb_m3 (List.mem_of_getElem? (i := 1) rfl)
theorem mb_152 : Jvm.Cond.soleField "StableHeap" "wordsOfEnded" ∈ TB := tb_m3 (List.mem_of_getElem? (i := 2) rfl)
theorem mb_153 : Jvm.Cond.lays "StableHeap" "StableHeap" "transactionsBegun" "I" ∈ TB := tb_m3 (List.mem_of_getElem? (i := 3) rfl)
theorem mb_154 : Jvm.Cond.soleField "StableHeap" "transactionsBegun" ∈ TB := tb_m3 (List.mem_of_getElem? (i := 4) rfl)
theorem mb_155 : Jvm.Cond.lays "StableHeap" "StableHeap" "flips" "I" ∈ TB := tb_m3 (List.mem_of_getElem? (i := 5) rfl)
theorem mb_156 : Jvm.Cond.soleField "StableHeap" "flips" ∈ TB := tb_m3 (List.mem_of_getElem? (i := 6) rfl)
theorem mb_157 : Jvm.Cond.superclass "StableHeap" "java/lang/Object" ∈ TB := tb_m3 (List.mem_of_getElem? (i := 7) rfl)
theorem mb_158 : Jvm.Cond.methodLink "StableHeapLaw" (109 : Nat) ({ cls := "StableHeap", name := "checkpoint", desc := "()I" } : Jvm.MethodName) ∈ TB := tb_m3 (List.mem_of_getElem? (i := 8) rfl)
theorem mb_159 : Jvm.Cond.instanceMethod ({ cls := "StableHeap", name := "checkpoint", desc := "()I" } : Jvm.MethodName) ∈ TB := tb_m3 (List.mem_of_getElem? (i := 9) rfl)
theorem mb_160 : Jvm.Cond.selects "StableHeap" ({ cls := "StableHeap", name := "checkpoint", desc := "()I" } : Jvm.MethodName) ({ cls := "StableHeap", name := "checkpoint", desc := "()I" } : Jvm.MethodName) ∈ TB := tb_m3 (List.mem_of_getElem? (i := 10) rfl)
theorem mb_161 : Jvm.Cond.code ({ cls := "StableHeap", name := "checkpoint", desc := "()I" } : Jvm.MethodName) prog_1_method_12_code (1 : Nat) (Option.some Jvm.ClassFile.FieldType.int) ∈ TB := tb_m3 (List.mem_of_getElem? (i := 11) rfl)
theorem mb_162 : Jvm.Cond.methodLink "StableHeap" (140 : Nat) ({ cls := "StableHeap", name := "wordsInLog", desc := "()I" } : Jvm.MethodName) ∈ TB := tb_m3 (List.mem_of_getElem? (i := 12) rfl)
theorem mb_163 : Jvm.Cond.instanceMethod ({ cls := "StableHeap", name := "wordsInLog", desc := "()I" } : Jvm.MethodName) ∈ TB := tb_m3 (List.mem_of_getElem? (i := 13) rfl)
theorem mb_164 : Jvm.Cond.code ({ cls := "StableHeap", name := "wordsInLog", desc := "()I" } : Jvm.MethodName) prog_1_method_29_code (3 : Nat) (Option.some Jvm.ClassFile.FieldType.int) ∈ TB := tb_m3 (List.mem_of_getElem? (i := 14) rfl)
theorem mb_165 : Jvm.Cond.methodLink "StableHeapLaw" (113 : Nat) ({ cls := "StableHeap", name := "crash", desc := "()I" } : Jvm.MethodName) ∈ TB := tb_m3 (List.mem_of_getElem? (i := 15) rfl)
theorem mb_166 : Jvm.Cond.instanceMethod ({ cls := "StableHeap", name := "crash", desc := "()I" } : Jvm.MethodName) ∈ TB := tb_m3 (List.mem_of_getElem? (i := 16) rfl)
theorem mb_167 : Jvm.Cond.selects "StableHeap" ({ cls := "StableHeap", name := "crash", desc := "()I" } : Jvm.MethodName) ({ cls := "StableHeap", name := "crash", desc := "()I" } : Jvm.MethodName) ∈ TB := tb_m3 (List.mem_of_getElem? (i := 17) rfl)
theorem mb_168 : Jvm.Cond.code ({ cls := "StableHeap", name := "crash", desc := "()I" } : Jvm.MethodName) prog_1_method_13_code (3 : Nat) (Option.some Jvm.ClassFile.FieldType.int) ∈ TB := tb_m3 (List.mem_of_getElem? (i := 18) rfl)
theorem mb_169 : Jvm.Cond.methodLink "StableHeap" (143 : Nat) ({ cls := "StableHeap$Transaction", name := "isActive", desc := "()Z" } : Jvm.MethodName) ∈ TB := tb_m3 (List.mem_of_getElem? (i := 19) rfl)
theorem mb_170 : Jvm.Cond.instanceMethod ({ cls := "StableHeap$Transaction", name := "isActive", desc := "()Z" } : Jvm.MethodName) ∈ TB := tb_m3 (List.mem_of_getElem? (i := 20) rfl)
theorem mb_171 : Jvm.Cond.selects "StableHeap$Transaction" ({ cls := "StableHeap$Transaction", name := "isActive", desc := "()Z" } : Jvm.MethodName) ({ cls := "StableHeap$Transaction", name := "isActive", desc := "()Z" } : Jvm.MethodName) ∈ TB := tb_m3 (List.mem_of_getElem? (i := 21) rfl)
theorem mb_172 : Jvm.Cond.code ({ cls := "StableHeap$Transaction", name := "isActive", desc := "()Z" } : Jvm.MethodName) prog_4_method_2_code (1 : Nat) (Option.some Jvm.ClassFile.FieldType.boolean) ∈ TB := tb_m3 (List.mem_of_getElem? (i := 22) rfl)
theorem mb_173 : Jvm.Cond.methodLink "StableHeap" (136 : Nat) ({ cls := "StableHeap", name := "end", desc := "(LStableHeap$Transaction;Z)I" } : Jvm.MethodName) ∈ TB := tb_m3 (List.mem_of_getElem? (i := 23) rfl)
theorem mb_174 : Jvm.Cond.instanceMethod ({ cls := "StableHeap", name := "end", desc := "(LStableHeap$Transaction;Z)I" } : Jvm.MethodName) ∈ TB := tb_m3 (List.mem_of_getElem? (i := 24) rfl)
theorem mb_175 : Jvm.Cond.code ({ cls := "StableHeap", name := "end", desc := "(LStableHeap$Transaction;Z)I" } : Jvm.MethodName) prog_1_method_31_code (5 : Nat) (Option.some Jvm.ClassFile.FieldType.int) ∈ TB := tb_m3 (List.mem_of_getElem? (i := 25) rfl)
theorem mb_176 : Jvm.Cond.methodLink "StableHeap" (205 : Nat) ({ cls := "StableHeap$Lockable", name := "unlock", desc := "(IZ)I" } : Jvm.MethodName) ∈ TB := tb_m3 (List.mem_of_getElem? (i := 26) rfl)
theorem mb_177 : Jvm.Cond.instanceMethod ({ cls := "StableHeap$Lockable", name := "unlock", desc := "(IZ)I" } : Jvm.MethodName) ∈ TB := tb_m3 (List.mem_of_getElem? (i := 27) rfl)
theorem mb_178 : Jvm.Cond.selects "StableHeap$Lockable" ({ cls := "StableHeap$Lockable", name := "unlock", desc := "(IZ)I" } : Jvm.MethodName) ({ cls := "StableHeap$Lockable", name := "unlock", desc := "(IZ)I" } : Jvm.MethodName) ∈ TB := tb_m3 (List.mem_of_getElem? (i := 28) rfl)
theorem mb_179 : Jvm.Cond.code ({ cls := "StableHeap$Lockable", name := "unlock", desc := "(IZ)I" } : Jvm.MethodName) prog_2_method_3_code (4 : Nat) (Option.some Jvm.ClassFile.FieldType.int) ∈ TB := tb_m3 (List.mem_of_getElem? (i := 29) rfl)
theorem mb_180 : Jvm.Cond.methodLink "StableHeap$Lockable" (23 : Nat) ({ cls := "StableHeap$Place", name := "takeBack", desc := "()V" } : Jvm.MethodName) ∈ TB := tb_m3 (List.mem_of_getElem? (i := 30) rfl)
theorem mb_181 : Jvm.Cond.instanceMethod ({ cls := "StableHeap$Place", name := "takeBack", desc := "()V" } : Jvm.MethodName) ∈ TB := tb_m3 (List.mem_of_getElem? (i := 31) rfl)
theorem mb_182 : Jvm.Cond.selects "StableHeap$Place" ({ cls := "StableHeap$Place", name := "takeBack", desc := "()V" } : Jvm.MethodName) ({ cls := "StableHeap$Place", name := "takeBack", desc := "()V" } : Jvm.MethodName) ∈ TB := tb_m3 (List.mem_of_getElem? (i := 32) rfl)
theorem mb_183 : Jvm.Cond.code ({ cls := "StableHeap$Place", name := "takeBack", desc := "()V" } : Jvm.MethodName) prog_3_method_4_code (1 : Nat) (Option.none : Option Jvm.ClassFile.FieldType) ∈ TB := tb_m3 (List.mem_of_getElem? (i := 33) rfl)
theorem mb_184 : Jvm.Cond.methodLink "StableHeap$Lockable" (26 : Nat) ({ cls := "StableHeap$Place", name := "forgetFormer", desc := "()V" } : Jvm.MethodName) ∈ TB := tb_m3 (List.mem_of_getElem? (i := 34) rfl)
theorem mb_185 : Jvm.Cond.instanceMethod ({ cls := "StableHeap$Place", name := "forgetFormer", desc := "()V" } : Jvm.MethodName) ∈ TB := tb_m3 (List.mem_of_getElem? (i := 35) rfl)
theorem mb_186 : Jvm.Cond.selects "StableHeap$Place" ({ cls := "StableHeap$Place", name := "forgetFormer", desc := "()V" } : Jvm.MethodName) ({ cls := "StableHeap$Place", name := "forgetFormer", desc := "()V" } : Jvm.MethodName) ∈ TB := tb_m3 (List.mem_of_getElem? (i := 36) rfl)
theorem mb_187 : Jvm.Cond.code ({ cls := "StableHeap$Place", name := "forgetFormer", desc := "()V" } : Jvm.MethodName) prog_3_method_5_code (1 : Nat) (Option.none : Option Jvm.ClassFile.FieldType) ∈ TB := tb_m3 (List.mem_of_getElem? (i := 37) rfl)
theorem mb_188 : Jvm.Cond.methodLink "StableHeapLaw" (117 : Nat) ({ cls := "StableHeap", name := "collect", desc := "(I)I" } : Jvm.MethodName) ∈ TB := tb_m3 (List.mem_of_getElem? (i := 38) rfl)
theorem mb_189 : Jvm.Cond.instanceMethod ({ cls := "StableHeap", name := "collect", desc := "(I)I" } : Jvm.MethodName) ∈ TB := tb_m3 (List.mem_of_getElem? (i := 39) rfl)
theorem mb_190 : Jvm.Cond.selects "StableHeap" ({ cls := "StableHeap", name := "collect", desc := "(I)I" } : Jvm.MethodName) ({ cls := "StableHeap", name := "collect", desc := "(I)I" } : Jvm.MethodName) ∈ TB := tb_m3 (List.mem_of_getElem? (i := 40) rfl)
theorem mb_191 : Jvm.Cond.code ({ cls := "StableHeap", name := "collect", desc := "(I)I" } : Jvm.MethodName) prog_1_method_14_code (3 : Nat) (Option.some Jvm.ClassFile.FieldType.int) ∈ TB := tb_m3 (List.mem_of_getElem? (i := 41) rfl)
theorem mb_192 : Jvm.Cond.methodLink "StableHeap" (147 : Nat) ({ cls := "StableHeap", name := "findHeld", desc := "()V" } : Jvm.MethodName) ∈ TB := tb_m3 (List.mem_of_getElem? (i := 42) rfl)
theorem mb_193 : Jvm.Cond.instanceMethod ({ cls := "StableHeap", name := "findHeld", desc := "()V" } : Jvm.MethodName) ∈ TB := tb_m3 (List.mem_of_getElem? (i := 43) rfl)
theorem mb_194 : Jvm.Cond.code ({ cls := "StableHeap", name := "findHeld", desc := "()V" } : Jvm.MethodName) prog_1_method_32_code (2 : Nat) (Option.none : Option Jvm.ClassFile.FieldType) ∈ TB := tb_m3 (List.mem_of_getElem? (i := 44) rfl)
theorem mb_195 : Jvm.Cond.methodLink "StableHeap" (212 : Nat) ({ cls := "StableHeap", name := "holdTargets", desc := "(LStableHeap$Lockable;)V" } : Jvm.MethodName) ∈ TB := tb_m3 (List.mem_of_getElem? (i := 45) rfl)
theorem mb_196 : Jvm.Cond.instanceMethod ({ cls := "StableHeap", name := "holdTargets", desc := "(LStableHeap$Lockable;)V" } : Jvm.MethodName) ∈ TB := tb_m3 (List.mem_of_getElem? (i := 46) rfl)
theorem mb_197 : Jvm.Cond.code ({ cls := "StableHeap", name := "holdTargets", desc := "(LStableHeap$Lockable;)V" } : Jvm.MethodName) prog_1_method_33_code (3 : Nat) (Option.none : Option Jvm.ClassFile.FieldType) ∈ TB := tb_m3 (List.mem_of_getElem? (i := 47) rfl)
theorem mb_198 : Jvm.Cond.methodLink "StableHeap" (215 : Nat) ({ cls := "StableHeap", name := "hold", desc := "(LStableHeap$Lockable;)V" } : Jvm.MethodName) ∈ TB := tb_m3 (List.mem_of_getElem? (i := 48) rfl)
theorem mb_199 : Jvm.Cond.instanceMethod ({ cls := "StableHeap", name := "hold", desc := "(LStableHeap$Lockable;)V" } : Jvm.MethodName) ∈ TB := tb_m3 (List.mem_of_getElem? (i := 49) rfl)
theorem mb_200 : Jvm.Cond.code ({ cls := "StableHeap", name := "hold", desc := "(LStableHeap$Lockable;)V" } : Jvm.MethodName) prog_1_method_34_code (2 : Nat) (Option.none : Option Jvm.ClassFile.FieldType) ∈ TB := tb_m4 (List.mem_of_getElem? (i := 0) rfl)
theorem mb_201 : Jvm.Cond.methodLink "StableHeap" (153 : Nat) ({ cls := "StableHeap", name := "crash", desc := "()I" } : Jvm.MethodName) ∈ TB := tb_m4 (List.mem_of_getElem? (i := 1) rfl)
theorem mb_202 : Jvm.Cond.methodLink "StableHeap" (156 : Nat) ({ cls := "StableHeap", name := "flip", desc := "()V" } : Jvm.MethodName) ∈ TB := tb_m4 (List.mem_of_getElem? (i := 2) rfl)
theorem mb_203 : Jvm.Cond.instanceMethod ({ cls := "StableHeap", name := "flip", desc := "()V" } : Jvm.MethodName) ∈ TB := tb_m4 (List.mem_of_getElem? (i := 3) rfl)
theorem mb_204 : Jvm.Cond.code ({ cls := "StableHeap", name := "flip", desc := "()V" } : Jvm.MethodName) prog_1_method_35_code (3 : Nat) (Option.none : Option Jvm.ClassFile.FieldType) ∈ TB := tb_m4 (List.mem_of_getElem? (i := 4) rfl)
theorem mb_205 : Jvm.Cond.methodLink "StableHeap" (74 : Nat) ({ cls := "StableHeap$Lockable", name := "words", desc := "()I" } : Jvm.MethodName) ∈ TB := tb_m4 (List.mem_of_getElem? (i := 5) rfl)
theorem mb_206 : Jvm.Cond.instanceMethod ({ cls := "StableHeap$Lockable", name := "words", desc := "()I" } : Jvm.MethodName) ∈ TB := tb_m4 (List.mem_of_getElem? (i := 6) rfl)
theorem mb_207 : Jvm.Cond.selects "StableHeap$Lockable" ({ cls := "StableHeap$Lockable", name := "words", desc := "()I" } : Jvm.MethodName) ({ cls := "StableHeap$Lockable", name := "words", desc := "()I" } : Jvm.MethodName) ∈ TB := tb_m4 (List.mem_of_getElem? (i := 7) rfl)
theorem mb_208 : Jvm.Cond.code ({ cls := "StableHeap$Lockable", name := "words", desc := "()I" } : Jvm.MethodName) prog_2_method_2_code (1 : Nat) (Option.some Jvm.ClassFile.FieldType.int) ∈ TB := tb_m4 (List.mem_of_getElem? (i := 8) rfl)
theorem mb_209 : Jvm.Cond.methodLink "StableHeap" (159 : Nat) ({ cls := "StableHeap", name := "checkpoint", desc := "()I" } : Jvm.MethodName) ∈ TB := tb_m4 (List.mem_of_getElem? (i := 9) rfl)
theorem mb_210 : Jvm.Cond.methodLink "StableHeapLaw" (69 : Nat) ({ cls := "StableHeapLaw", name := "begin", desc := "(LStableHeap;[J)I" } : Jvm.MethodName) ∈ TB := tb_m4 (List.mem_of_getElem? (i := 10) rfl)
theorem mb_211 : Jvm.Cond.static ({ cls := "StableHeapLaw", name := "begin", desc := "(LStableHeap;[J)I" } : Jvm.MethodName) ∈ TB := tb_m4 (List.mem_of_getElem? (i := 11) rfl)
theorem mb_212 : Jvm.Cond.codeWith ({ cls := "StableHeapLaw", name := "begin", desc := "(LStableHeap;[J)I" } : Jvm.MethodName) method_3_code (3 : Nat) (Option.some Jvm.ClassFile.FieldType.int) [((0 : Nat), (8 : Nat), (11 : Nat), (13 : Nat)), ((0 : Nat), (8 : Nat), (14 : Nat), (15 : Nat))] ∈ TB := tb_m4 (List.mem_of_getElem? (i := 12) rfl)
theorem mb_213 : Jvm.Cond.classLink "StableHeapLaw" (13 : Nat) "java/lang/IllegalStateException" ∈ TB := tb_m4 (List.mem_of_getElem? (i := 13) rfl)
theorem mb_214 : Jvm.Cond.classLink "StableHeapLaw" (15 : Nat) "java/lang/UnsupportedOperationException" ∈ TB := tb_m4 (List.mem_of_getElem? (i := 14) rfl)
theorem mb_215 : Jvm.Cond.methodLink "StableHeapLaw" (7 : Nat) ({ cls := "StableHeap", name := "begin", desc := "()I" } : Jvm.MethodName) ∈ TB := tb_m4 (List.mem_of_getElem? (i := 15) rfl)
theorem mb_216 : Jvm.Cond.instanceMethod ({ cls := "StableHeap", name := "begin", desc := "()I" } : Jvm.MethodName) ∈ TB := tb_m4 (List.mem_of_getElem? (i := 16) rfl)
theorem mb_217 : Jvm.Cond.selects "StableHeap" ({ cls := "StableHeap", name := "begin", desc := "()I" } : Jvm.MethodName) ({ cls := "StableHeap", name := "begin", desc := "()I" } : Jvm.MethodName) ∈ TB := tb_m4 (List.mem_of_getElem? (i := 17) rfl)
theorem mb_218 : Jvm.Cond.code ({ cls := "StableHeap", name := "begin", desc := "()I" } : Jvm.MethodName) prog_1_method_2_code (2 : Nat) (Option.some Jvm.ClassFile.FieldType.int) ∈ TB := tb_m4 (List.mem_of_getElem? (i := 18) rfl)
theorem mb_219 : Jvm.Cond.methodLink "StableHeap" (31 : Nat) ({ cls := "StableHeap", name := "unusedTransaction", desc := "()LStableHeap$Transaction;" } : Jvm.MethodName) ∈ TB := tb_m4 (List.mem_of_getElem? (i := 19) rfl)
theorem mb_220 : Jvm.Cond.instanceMethod ({ cls := "StableHeap", name := "unusedTransaction", desc := "()LStableHeap$Transaction;" } : Jvm.MethodName) ∈ TB := tb_m4 (List.mem_of_getElem? (i := 20) rfl)
theorem mb_221 : Jvm.Cond.code ({ cls := "StableHeap", name := "unusedTransaction", desc := "()LStableHeap$Transaction;" } : Jvm.MethodName) prog_1_method_18_code (2 : Nat) (Option.some (Jvm.ClassFile.FieldType.object "StableHeap$Transaction")) ∈ TB := tb_m4 (List.mem_of_getElem? (i := 21) rfl)
theorem mb_222 : Jvm.Cond.classLink "StableHeap" (63 : Nat) "java/lang/IllegalStateException" ∈ TB := tb_m4 (List.mem_of_getElem? (i := 22) rfl)
theorem mb_223 : Jvm.Cond.instantiable "java/lang/IllegalStateException" (6 : Nat) ∈ TB := tb_m4 (List.mem_of_getElem? (i := 23) rfl)
theorem mb_224 : Jvm.Cond.selects "java/lang/IllegalStateException" ({ cls := "java/lang/Throwable", name := "fillInStackTrace", desc := "(I)Ljava/lang/Throwable;" } : Jvm.MethodName) ({ cls := "java/lang/Throwable", name := "fillInStackTrace", desc := "(I)Ljava/lang/Throwable;" } : Jvm.MethodName) ∈ TB := tb_m4 (List.mem_of_getElem? (i := 24) rfl)
theorem mb_225 : Jvm.Cond.selects "java/lang/IllegalStateException" ({ cls := "java/lang/Throwable", name := "fillInStackTrace", desc := "()Ljava/lang/Throwable;" } : Jvm.MethodName) ({ cls := "java/lang/Throwable", name := "fillInStackTrace", desc := "()Ljava/lang/Throwable;" } : Jvm.MethodName) ∈ TB := tb_m4 (List.mem_of_getElem? (i := 25) rfl)
theorem mb_226 : Jvm.Cond.lays "java/lang/IllegalStateException" "java/lang/Throwable" "cause" "Ljava/lang/Throwable;" ∈ TB := tb_m4 (List.mem_of_getElem? (i := 26) rfl)
theorem mb_227 : Jvm.Cond.lays "java/lang/Throwable" "java/lang/Throwable" "cause" "Ljava/lang/Throwable;" ∈ TB := tb_m4 (List.mem_of_getElem? (i := 27) rfl)
theorem mb_228 : Jvm.Cond.lays "java/lang/IllegalStateException" "java/lang/Throwable" "stackTrace" "[Ljava/lang/StackTraceElement;" ∈ TB := tb_m4 (List.mem_of_getElem? (i := 28) rfl)
theorem mb_229 : Jvm.Cond.lays "java/lang/Throwable" "java/lang/Throwable" "stackTrace" "[Ljava/lang/StackTraceElement;" ∈ TB := tb_m4 (List.mem_of_getElem? (i := 29) rfl)
theorem mb_230 : Jvm.Cond.lays "java/lang/IllegalStateException" "java/lang/Throwable" "suppressedExceptions" "Ljava/util/List;" ∈ TB := tb_m4 (List.mem_of_getElem? (i := 30) rfl)
theorem mb_231 : Jvm.Cond.lays "java/lang/Throwable" "java/lang/Throwable" "suppressedExceptions" "Ljava/util/List;" ∈ TB := tb_m4 (List.mem_of_getElem? (i := 31) rfl)
theorem mb_232 : Jvm.Cond.lays "java/lang/IllegalStateException" "java/lang/Throwable" "detailMessage" "Ljava/lang/String;" ∈ TB := tb_m4 (List.mem_of_getElem? (i := 32) rfl)
theorem mb_233 : Jvm.Cond.lays "java/lang/Throwable" "java/lang/Throwable" "detailMessage" "Ljava/lang/String;" ∈ TB := tb_m4 (List.mem_of_getElem? (i := 33) rfl)
theorem mb_234 : Jvm.Cond.lays "java/lang/IllegalStateException" "java/lang/Throwable" "backtrace" "Ljava/lang/Object;" ∈ TB := tb_m4 (List.mem_of_getElem? (i := 34) rfl)
theorem mb_235 : Jvm.Cond.lays "java/lang/Throwable" "java/lang/Throwable" "backtrace" "Ljava/lang/Object;" ∈ TB := tb_m4 (List.mem_of_getElem? (i := 35) rfl)
theorem mb_236 : Jvm.Cond.fieldLink "java/lang/Throwable" (198 : Nat) "java/lang/Throwable" "backtrace" "Ljava/lang/Object;" ∈ TB := tb_m4 (List.mem_of_getElem? (i := 36) rfl)
theorem mb_237 : Jvm.Cond.superclass "java/lang/Throwable" "java/lang/Object" ∈ TB := tb_m4 (List.mem_of_getElem? (i := 37) rfl)
theorem mb_238 : Jvm.Cond.instanceMethod ({ cls := "java/lang/Throwable", name := "<init>", desc := "()V" } : Jvm.MethodName) ∈ TB := tb_m4 (List.mem_of_getElem? (i := 38) rfl)
theorem mb_239 : Jvm.Cond.code ({ cls := "java/lang/Throwable", name := "<init>", desc := "()V" } : Jvm.MethodName) prog_14_method_1_code (1 : Nat) (Option.none : Option Jvm.ClassFile.FieldType) ∈ TB := tb_m4 (List.mem_of_getElem? (i := 39) rfl)
theorem mb_240 : Jvm.Cond.methodLink "java/lang/Throwable" (1 : Nat) ({ cls := "java/lang/Object", name := "<init>", desc := "()V" } : Jvm.MethodName) ∈ TB := tb_m4 (List.mem_of_getElem? (i := 40) rfl)
theorem mb_241 : Jvm.Cond.fieldLink "java/lang/Throwable" (13 : Nat) "java/lang/Throwable" "UNASSIGNED_STACK" "[Ljava/lang/StackTraceElement;" ∈ TB := tb_m4 (List.mem_of_getElem? (i := 41) rfl)
theorem mb_242 : Jvm.Cond.fieldLink "java/lang/Throwable" (20 : Nat) "java/lang/Throwable" "SUPPRESSED_SENTINEL" "Ljava/util/List;" ∈ TB := tb_m4 (List.mem_of_getElem? (i := 42) rfl)
theorem mb_243 : Jvm.Cond.methodLink "java/lang/Throwable" (27 : Nat) ({ cls := "java/lang/Throwable", name := "fillInStackTrace", desc := "()Ljava/lang/Throwable;" } : Jvm.MethodName) ∈ TB := tb_m4 (List.mem_of_getElem? (i := 43) rfl)
theorem mb_244 : Jvm.Cond.instanceMethod ({ cls := "java/lang/Throwable", name := "fillInStackTrace", desc := "()Ljava/lang/Throwable;" } : Jvm.MethodName) ∈ TB := tb_m4 (List.mem_of_getElem? (i := 44) rfl)
theorem mb_245 : Jvm.Cond.sameMethod "java/lang/Throwable" "java/lang/Throwable" "fillInStackTrace" "()Ljava/lang/Throwable;" ∈ TB := tb_m4 (List.mem_of_getElem? (i := 45) rfl)
theorem mb_246 : Jvm.Cond.selects "java/lang/ArithmeticException" ({ cls := "java/lang/Throwable", name := "fillInStackTrace", desc := "()Ljava/lang/Throwable;" } : Jvm.MethodName) ({ cls := "java/lang/Throwable", name := "fillInStackTrace", desc := "()Ljava/lang/Throwable;" } : Jvm.MethodName) ∈ TB := tb_m4 (List.mem_of_getElem? (i := 46) rfl)
theorem mb_247 : Jvm.Cond.selects "java/lang/IllegalArgumentException" ({ cls := "java/lang/Throwable", name := "fillInStackTrace", desc := "()Ljava/lang/Throwable;" } : Jvm.MethodName) ({ cls := "java/lang/Throwable", name := "fillInStackTrace", desc := "()Ljava/lang/Throwable;" } : Jvm.MethodName) ∈ TB := tb_m4 (List.mem_of_getElem? (i := 47) rfl)
theorem mb_248 : Jvm.Cond.selects "java/lang/IndexOutOfBoundsException" ({ cls := "java/lang/Throwable", name := "fillInStackTrace", desc := "()Ljava/lang/Throwable;" } : Jvm.MethodName) ({ cls := "java/lang/Throwable", name := "fillInStackTrace", desc := "()Ljava/lang/Throwable;" } : Jvm.MethodName) ∈ TB := tb_m4 (List.mem_of_getElem? (i := 48) rfl)
theorem mb_249 : Jvm.Cond.selects "java/lang/UnsupportedOperationException" ({ cls := "java/lang/Throwable", name := "fillInStackTrace", desc := "()Ljava/lang/Throwable;" } : Jvm.MethodName) ({ cls := "java/lang/Throwable", name := "fillInStackTrace", desc := "()Ljava/lang/Throwable;" } : Jvm.MethodName) ∈ TB := tb_m4 (List.mem_of_getElem? (i := 49) rfl)
theorem mb_250 : Jvm.Cond.selects "java/util/NoSuchElementException" ({ cls := "java/lang/Throwable", name := "fillInStackTrace", desc := "()Ljava/lang/Throwable;" } : Jvm.MethodName) ({ cls := "java/lang/Throwable", name := "fillInStackTrace", desc := "()Ljava/lang/Throwable;" } : Jvm.MethodName) ∈ TB := tb_m5 (List.mem_of_getElem? (i := 0) rfl)
theorem mb_251 : Jvm.Cond.codeSync ({ cls := "java/lang/Throwable", name := "fillInStackTrace", desc := "()Ljava/lang/Throwable;" } : Jvm.MethodName) prog_14_method_18_code (1 : Nat) (Option.some (Jvm.ClassFile.FieldType.object "java/lang/Throwable")) ∈ TB := tb_m5 (List.mem_of_getElem? (i := 1) rfl)
theorem mb_252 : Jvm.Cond.methodLink "java/lang/Throwable" (202 : Nat) ({ cls := "java/lang/Throwable", name := "fillInStackTrace", desc := "(I)Ljava/lang/Throwable;" } : Jvm.MethodName) ∈ TB := tb_m5 (List.mem_of_getElem? (i := 2) rfl)
theorem mb_253 : Jvm.Cond.instanceMethod ({ cls := "java/lang/Throwable", name := "fillInStackTrace", desc := "(I)Ljava/lang/Throwable;" } : Jvm.MethodName) ∈ TB := tb_m5 (List.mem_of_getElem? (i := 3) rfl)
theorem mb_254 : Jvm.Cond.instantiable "java/lang/Throwable" (6 : Nat) ∈ TB := tb_m5 (List.mem_of_getElem? (i := 4) rfl)
theorem mb_255 : Jvm.Cond.native ({ cls := "java/lang/Throwable", name := "fillInStackTrace", desc := "(I)Ljava/lang/Throwable;" } : Jvm.MethodName) ∈ TB := tb_m5 (List.mem_of_getElem? (i := 5) rfl)
theorem mb_256 : Jvm.Cond.methodLink "StableHeap" (67 : Nat) ({ cls := "java/lang/IllegalStateException", name := "<init>", desc := "(Ljava/lang/String;)V" } : Jvm.MethodName) ∈ TB := tb_m5 (List.mem_of_getElem? (i := 6) rfl)
theorem mb_257 : Jvm.Cond.instanceMethod ({ cls := "java/lang/IllegalStateException", name := "<init>", desc := "(Ljava/lang/String;)V" } : Jvm.MethodName) ∈ TB := tb_m5 (List.mem_of_getElem? (i := 7) rfl)
theorem mb_258 : Jvm.Cond.code ({ cls := "java/lang/IllegalStateException", name := "<init>", desc := "(Ljava/lang/String;)V" } : Jvm.MethodName) prog_10_method_2_code (2 : Nat) (Option.none : Option Jvm.ClassFile.FieldType) ∈ TB := tb_m5 (List.mem_of_getElem? (i := 8) rfl)
theorem mb_259 : Jvm.Cond.methodLink "java/lang/IllegalStateException" (7 : Nat) ({ cls := "java/lang/RuntimeException", name := "<init>", desc := "(Ljava/lang/String;)V" } : Jvm.MethodName) ∈ TB := tb_m5 (List.mem_of_getElem? (i := 9) rfl)
theorem mb_260 : Jvm.Cond.instanceMethod ({ cls := "java/lang/RuntimeException", name := "<init>", desc := "(Ljava/lang/String;)V" } : Jvm.MethodName) ∈ TB := tb_m5 (List.mem_of_getElem? (i := 10) rfl)
theorem mb_261 : Jvm.Cond.code ({ cls := "java/lang/RuntimeException", name := "<init>", desc := "(Ljava/lang/String;)V" } : Jvm.MethodName) prog_12_method_2_code (2 : Nat) (Option.none : Option Jvm.ClassFile.FieldType) ∈ TB := tb_m5 (List.mem_of_getElem? (i := 11) rfl)
theorem mb_262 : Jvm.Cond.methodLink "java/lang/RuntimeException" (7 : Nat) ({ cls := "java/lang/Exception", name := "<init>", desc := "(Ljava/lang/String;)V" } : Jvm.MethodName) ∈ TB := tb_m5 (List.mem_of_getElem? (i := 12) rfl)
theorem mb_263 : Jvm.Cond.instanceMethod ({ cls := "java/lang/Exception", name := "<init>", desc := "(Ljava/lang/String;)V" } : Jvm.MethodName) ∈ TB := tb_m5 (List.mem_of_getElem? (i := 13) rfl)
theorem mb_264 : Jvm.Cond.code ({ cls := "java/lang/Exception", name := "<init>", desc := "(Ljava/lang/String;)V" } : Jvm.MethodName) prog_8_method_2_code (2 : Nat) (Option.none : Option Jvm.ClassFile.FieldType) ∈ TB := tb_m5 (List.mem_of_getElem? (i := 14) rfl)
theorem mb_265 : Jvm.Cond.methodLink "java/lang/Exception" (7 : Nat) ({ cls := "java/lang/Throwable", name := "<init>", desc := "(Ljava/lang/String;)V" } : Jvm.MethodName) ∈ TB := tb_m5 (List.mem_of_getElem? (i := 15) rfl)
theorem mb_266 : Jvm.Cond.instanceMethod ({ cls := "java/lang/Throwable", name := "<init>", desc := "(Ljava/lang/String;)V" } : Jvm.MethodName) ∈ TB := tb_m5 (List.mem_of_getElem? (i := 16) rfl)
theorem mb_267 : Jvm.Cond.code ({ cls := "java/lang/Throwable", name := "<init>", desc := "(Ljava/lang/String;)V" } : Jvm.MethodName) prog_14_method_2_code (2 : Nat) (Option.none : Option Jvm.ClassFile.FieldType) ∈ TB := tb_m5 (List.mem_of_getElem? (i := 17) rfl)
theorem mb_269 : Jvm.Cond.fieldLink "java/lang/Throwable" (31 : Nat) "java/lang/Throwable" "detailMessage" "Ljava/lang/String;" ∈ TB := tb_m5 (List.mem_of_getElem? (i := 19) rfl)
theorem mb_270 : Jvm.Cond.fieldLink "java/lang/Throwable" (7 : Nat) "java/lang/Throwable" "cause" "Ljava/lang/Throwable;" ∈ TB := tb_m5 (List.mem_of_getElem? (i := 20) rfl)
theorem mb_271 : Jvm.Cond.fieldLink "java/lang/Throwable" (17 : Nat) "java/lang/Throwable" "stackTrace" "[Ljava/lang/StackTraceElement;" ∈ TB := tb_m5 (List.mem_of_getElem? (i := 21) rfl)
theorem mb_272 : Jvm.Cond.fieldLink "java/lang/Throwable" (24 : Nat) "java/lang/Throwable" "suppressedExceptions" "Ljava/util/List;" ∈ TB := tb_m5 (List.mem_of_getElem? (i := 22) rfl)
theorem mb_273 : Jvm.Cond.soleField "java/lang/Throwable" "backtrace" ∈ TB := tb_m5 (List.mem_of_getElem? (i := 23) rfl)
theorem mb_274 : Jvm.Cond.soleField "java/lang/Throwable" "detailMessage" ∈ TB := tb_m5 (List.mem_of_getElem? (i := 24) rfl)
theorem mb_275 : Jvm.Cond.soleField "java/lang/Throwable" "cause" ∈ TB := tb_m5 (List.mem_of_getElem? (i := 25) rfl)
theorem mb_276 : Jvm.Cond.soleField "java/lang/Throwable" "stackTrace" ∈ TB := tb_m5 (List.mem_of_getElem? (i := 26) rfl)
theorem mb_277 : Jvm.Cond.lays "java/lang/IllegalStateException" "java/lang/Throwable" "depth" "I" ∈ TB := tb_m5 (List.mem_of_getElem? (i := 27) rfl)
theorem mb_278 : Jvm.Cond.soleField "java/lang/Throwable" "depth" ∈ TB := tb_m5 (List.mem_of_getElem? (i := 28) rfl)
theorem mb_279 : Jvm.Cond.soleField "java/lang/Throwable" "suppressedExceptions" ∈ TB := tb_m5 (List.mem_of_getElem? (i := 29) rfl)
theorem mb_280 : Jvm.Cond.superclass "java/lang/IllegalStateException" "java/lang/RuntimeException" ∈ TB := tb_m5 (List.mem_of_getElem? (i := 30) rfl)
theorem mb_281 : Jvm.Cond.arrayClass Jvm.ClassFile.FieldType.byte ∈ TB := tb_m5 (List.mem_of_getElem? (i := 31) rfl)
theorem mb_282 : Jvm.Cond.methodLink "StableHeap" (35 : Nat) ({ cls := "StableHeap", name := "writeRecord", desc := "(LStableHeap$Transaction;I)V" } : Jvm.MethodName) ∈ TB := tb_m5 (List.mem_of_getElem? (i := 32) rfl)
theorem mb_283 : Jvm.Cond.instanceMethod ({ cls := "StableHeap", name := "writeRecord", desc := "(LStableHeap$Transaction;I)V" } : Jvm.MethodName) ∈ TB := tb_m5 (List.mem_of_getElem? (i := 33) rfl)
theorem mb_284 : Jvm.Cond.code ({ cls := "StableHeap", name := "writeRecord", desc := "(LStableHeap$Transaction;I)V" } : Jvm.MethodName) prog_1_method_30_code (3 : Nat) (Option.none : Option Jvm.ClassFile.FieldType) ∈ TB := tb_m5 (List.mem_of_getElem? (i := 34) rfl)
theorem mb_285 : Jvm.Cond.classLink "StableHeap" (200 : Nat) "java/lang/UnsupportedOperationException" ∈ TB := tb_m5 (List.mem_of_getElem? (i := 35) rfl)
theorem mb_286 : Jvm.Cond.instantiable "java/lang/UnsupportedOperationException" (6 : Nat) ∈ TB := tb_m5 (List.mem_of_getElem? (i := 36) rfl)
theorem mb_287 : Jvm.Cond.selects "java/lang/UnsupportedOperationException" ({ cls := "java/lang/Throwable", name := "fillInStackTrace", desc := "(I)Ljava/lang/Throwable;" } : Jvm.MethodName) ({ cls := "java/lang/Throwable", name := "fillInStackTrace", desc := "(I)Ljava/lang/Throwable;" } : Jvm.MethodName) ∈ TB := tb_m5 (List.mem_of_getElem? (i := 37) rfl)
theorem mb_288 : Jvm.Cond.lays "java/lang/UnsupportedOperationException" "java/lang/Throwable" "cause" "Ljava/lang/Throwable;" ∈ TB := tb_m5 (List.mem_of_getElem? (i := 38) rfl)
theorem mb_289 : Jvm.Cond.lays "java/lang/UnsupportedOperationException" "java/lang/Throwable" "stackTrace" "[Ljava/lang/StackTraceElement;" ∈ TB := tb_m5 (List.mem_of_getElem? (i := 39) rfl)
theorem mb_290 : Jvm.Cond.lays "java/lang/UnsupportedOperationException" "java/lang/Throwable" "suppressedExceptions" "Ljava/util/List;" ∈ TB := tb_m5 (List.mem_of_getElem? (i := 40) rfl)
theorem mb_291 : Jvm.Cond.lays "java/lang/UnsupportedOperationException" "java/lang/Throwable" "detailMessage" "Ljava/lang/String;" ∈ TB := tb_m5 (List.mem_of_getElem? (i := 41) rfl)
theorem mb_292 : Jvm.Cond.lays "java/lang/UnsupportedOperationException" "java/lang/Throwable" "backtrace" "Ljava/lang/Object;" ∈ TB := tb_m5 (List.mem_of_getElem? (i := 42) rfl)
theorem mb_293 : Jvm.Cond.methodLink "StableHeap" (204 : Nat) ({ cls := "java/lang/UnsupportedOperationException", name := "<init>", desc := "(Ljava/lang/String;)V" } : Jvm.MethodName) ∈ TB := tb_m5 (List.mem_of_getElem? (i := 43) rfl)
theorem mb_294 : Jvm.Cond.instanceMethod ({ cls := "java/lang/UnsupportedOperationException", name := "<init>", desc := "(Ljava/lang/String;)V" } : Jvm.MethodName) ∈ TB := tb_m5 (List.mem_of_getElem? (i := 44) rfl)
theorem mb_295 : Jvm.Cond.code ({ cls := "java/lang/UnsupportedOperationException", name := "<init>", desc := "(Ljava/lang/String;)V" } : Jvm.MethodName) prog_15_method_2_code (2 : Nat) (Option.none : Option Jvm.ClassFile.FieldType) ∈ TB := tb_m5 (List.mem_of_getElem? (i := 45) rfl)
theorem mb_296 : Jvm.Cond.methodLink "java/lang/UnsupportedOperationException" (7 : Nat) ({ cls := "java/lang/RuntimeException", name := "<init>", desc := "(Ljava/lang/String;)V" } : Jvm.MethodName) ∈ TB := tb_m5 (List.mem_of_getElem? (i := 46) rfl)
theorem mb_297 : Jvm.Cond.lays "java/lang/UnsupportedOperationException" "java/lang/Throwable" "depth" "I" ∈ TB := tb_m5 (List.mem_of_getElem? (i := 47) rfl)
theorem mb_298 : Jvm.Cond.superclass "java/lang/UnsupportedOperationException" "java/lang/RuntimeException" ∈ TB := tb_m5 (List.mem_of_getElem? (i := 48) rfl)
theorem mb_299 : Jvm.Cond.methodLink "StableHeapLaw" (78 : Nat) ({ cls := "StableHeapLaw", name := "make", desc := "(LStableHeap;II[J)I" } : Jvm.MethodName) ∈ TB := tb_m5 (List.mem_of_getElem? (i := 49) rfl)
theorem mb_300 : Jvm.Cond.static ({ cls := "StableHeapLaw", name := "make", desc := "(LStableHeap;II[J)I" } : Jvm.MethodName) ∈ TB := tb_m6 (List.mem_of_getElem? (i := 0) rfl)
theorem mb_301 : Jvm.Cond.codeWith ({ cls := "StableHeapLaw", name := "make", desc := "(LStableHeap;II[J)I" } : Jvm.MethodName) method_4_code (5 : Nat) (Option.some Jvm.ClassFile.FieldType.int) [((0 : Nat), (10 : Nat), (13 : Nat), (21 : Nat)), ((0 : Nat), (10 : Nat), (17 : Nat), (23 : Nat)), ((0 : Nat), (10 : Nat), (21 : Nat), (13 : Nat)), ((0 : Nat), (10 : Nat), (25 : Nat), (15 : Nat))] ∈ TB := tb_m6 (List.mem_of_getElem? (i := 1) rfl)
theorem mb_302 : Jvm.Cond.classLink "StableHeapLaw" (21 : Nat) "java/util/NoSuchElementException" ∈ TB := tb_m6 (List.mem_of_getElem? (i := 2) rfl)
theorem mb_303 : Jvm.Cond.classLink "StableHeapLaw" (23 : Nat) "java/lang/IllegalArgumentException" ∈ TB := tb_m6 (List.mem_of_getElem? (i := 3) rfl)
theorem mb_304 : Jvm.Cond.methodLink "StableHeapLaw" (17 : Nat) ({ cls := "StableHeap", name := "make", desc := "(II)I" } : Jvm.MethodName) ∈ TB := tb_m6 (List.mem_of_getElem? (i := 4) rfl)
theorem mb_305 : Jvm.Cond.instanceMethod ({ cls := "StableHeap", name := "make", desc := "(II)I" } : Jvm.MethodName) ∈ TB := tb_m6 (List.mem_of_getElem? (i := 5) rfl)
theorem mb_306 : Jvm.Cond.selects "StableHeap" ({ cls := "StableHeap", name := "make", desc := "(II)I" } : Jvm.MethodName) ({ cls := "StableHeap", name := "make", desc := "(II)I" } : Jvm.MethodName) ∈ TB := tb_m6 (List.mem_of_getElem? (i := 6) rfl)
theorem mb_307 : Jvm.Cond.code ({ cls := "StableHeap", name := "make", desc := "(II)I" } : Jvm.MethodName) prog_1_method_3_code (5 : Nat) (Option.some Jvm.ClassFile.FieldType.int) ∈ TB := tb_m6 (List.mem_of_getElem? (i := 7) rfl)
theorem mb_308 : Jvm.Cond.methodLink "StableHeap" (46 : Nat) ({ cls := "StableHeap", name := "activeTransaction", desc := "(I)LStableHeap$Transaction;" } : Jvm.MethodName) ∈ TB := tb_m6 (List.mem_of_getElem? (i := 8) rfl)
theorem mb_309 : Jvm.Cond.instanceMethod ({ cls := "StableHeap", name := "activeTransaction", desc := "(I)LStableHeap$Transaction;" } : Jvm.MethodName) ∈ TB := tb_m6 (List.mem_of_getElem? (i := 9) rfl)
theorem mb_310 : Jvm.Cond.code ({ cls := "StableHeap", name := "activeTransaction", desc := "(I)LStableHeap$Transaction;" } : Jvm.MethodName) prog_1_method_19_code (3 : Nat) (Option.some (Jvm.ClassFile.FieldType.object "StableHeap$Transaction")) ∈ TB := tb_m6 (List.mem_of_getElem? (i := 10) rfl)
theorem mb_311 : Jvm.Cond.classLink "StableHeap" (162 : Nat) "java/util/NoSuchElementException" ∈ TB := tb_m6 (List.mem_of_getElem? (i := 11) rfl)
theorem mb_312 : Jvm.Cond.instantiable "java/util/NoSuchElementException" (6 : Nat) ∈ TB := tb_m6 (List.mem_of_getElem? (i := 12) rfl)
theorem mb_313 : Jvm.Cond.selects "java/util/NoSuchElementException" ({ cls := "java/lang/Throwable", name := "fillInStackTrace", desc := "(I)Ljava/lang/Throwable;" } : Jvm.MethodName) ({ cls := "java/lang/Throwable", name := "fillInStackTrace", desc := "(I)Ljava/lang/Throwable;" } : Jvm.MethodName) ∈ TB := tb_m6 (List.mem_of_getElem? (i := 13) rfl)
theorem mb_314 : Jvm.Cond.lays "java/util/NoSuchElementException" "java/lang/Throwable" "cause" "Ljava/lang/Throwable;" ∈ TB := tb_m6 (List.mem_of_getElem? (i := 14) rfl)
theorem mb_315 : Jvm.Cond.lays "java/util/NoSuchElementException" "java/lang/Throwable" "stackTrace" "[Ljava/lang/StackTraceElement;" ∈ TB := tb_m6 (List.mem_of_getElem? (i := 15) rfl)
theorem mb_316 : Jvm.Cond.lays "java/util/NoSuchElementException" "java/lang/Throwable" "suppressedExceptions" "Ljava/util/List;" ∈ TB := tb_m6 (List.mem_of_getElem? (i := 16) rfl)
theorem mb_317 : Jvm.Cond.lays "java/util/NoSuchElementException" "java/lang/Throwable" "detailMessage" "Ljava/lang/String;" ∈ TB := tb_m6 (List.mem_of_getElem? (i := 17) rfl)
theorem mb_318 : Jvm.Cond.lays "java/util/NoSuchElementException" "java/lang/Throwable" "backtrace" "Ljava/lang/Object;" ∈ TB := tb_m6 (List.mem_of_getElem? (i := 18) rfl)
theorem mb_319 : Jvm.Cond.methodLink "StableHeap" (166 : Nat) ({ cls := "java/util/NoSuchElementException", name := "<init>", desc := "(Ljava/lang/String;)V" } : Jvm.MethodName) ∈ TB := tb_m6 (List.mem_of_getElem? (i := 19) rfl)
theorem mb_320 : Jvm.Cond.instanceMethod ({ cls := "java/util/NoSuchElementException", name := "<init>", desc := "(Ljava/lang/String;)V" } : Jvm.MethodName) ∈ TB := tb_m6 (List.mem_of_getElem? (i := 20) rfl)
theorem mb_321 : Jvm.Cond.code ({ cls := "java/util/NoSuchElementException", name := "<init>", desc := "(Ljava/lang/String;)V" } : Jvm.MethodName) prog_16_method_4_code (2 : Nat) (Option.none : Option Jvm.ClassFile.FieldType) ∈ TB := tb_m6 (List.mem_of_getElem? (i := 21) rfl)
theorem mb_322 : Jvm.Cond.methodLink "java/util/NoSuchElementException" (13 : Nat) ({ cls := "java/lang/RuntimeException", name := "<init>", desc := "(Ljava/lang/String;)V" } : Jvm.MethodName) ∈ TB := tb_m6 (List.mem_of_getElem? (i := 22) rfl)
theorem mb_323 : Jvm.Cond.lays "java/util/NoSuchElementException" "java/lang/Throwable" "depth" "I" ∈ TB := tb_m6 (List.mem_of_getElem? (i := 23) rfl)
theorem mb_324 : Jvm.Cond.superclass "java/util/NoSuchElementException" "java/lang/RuntimeException" ∈ TB := tb_m6 (List.mem_of_getElem? (i := 24) rfl)
theorem mb_325 : Jvm.Cond.classLink "StableHeap" (50 : Nat) "java/lang/IllegalArgumentException" ∈ TB := tb_m6 (List.mem_of_getElem? (i := 25) rfl)
theorem mb_326 : Jvm.Cond.instantiable "java/lang/IllegalArgumentException" (6 : Nat) ∈ TB := tb_m6 (List.mem_of_getElem? (i := 26) rfl)
theorem mb_327 : Jvm.Cond.selects "java/lang/IllegalArgumentException" ({ cls := "java/lang/Throwable", name := "fillInStackTrace", desc := "(I)Ljava/lang/Throwable;" } : Jvm.MethodName) ({ cls := "java/lang/Throwable", name := "fillInStackTrace", desc := "(I)Ljava/lang/Throwable;" } : Jvm.MethodName) ∈ TB := tb_m6 (List.mem_of_getElem? (i := 27) rfl)
theorem mb_328 : Jvm.Cond.lays "java/lang/IllegalArgumentException" "java/lang/Throwable" "cause" "Ljava/lang/Throwable;" ∈ TB := tb_m6 (List.mem_of_getElem? (i := 28) rfl)
theorem mb_329 : Jvm.Cond.lays "java/lang/IllegalArgumentException" "java/lang/Throwable" "stackTrace" "[Ljava/lang/StackTraceElement;" ∈ TB := tb_m6 (List.mem_of_getElem? (i := 29) rfl)
theorem mb_330 : Jvm.Cond.lays "java/lang/IllegalArgumentException" "java/lang/Throwable" "suppressedExceptions" "Ljava/util/List;" ∈ TB := tb_m6 (List.mem_of_getElem? (i := 30) rfl)
theorem mb_331 : Jvm.Cond.lays "java/lang/IllegalArgumentException" "java/lang/Throwable" "detailMessage" "Ljava/lang/String;" ∈ TB := tb_m6 (List.mem_of_getElem? (i := 31) rfl)
theorem mb_332 : Jvm.Cond.lays "java/lang/IllegalArgumentException" "java/lang/Throwable" "backtrace" "Ljava/lang/Object;" ∈ TB := tb_m6 (List.mem_of_getElem? (i := 32) rfl)
theorem mb_333 : Jvm.Cond.methodLink "StableHeap" (54 : Nat) ({ cls := "java/lang/IllegalArgumentException", name := "<init>", desc := "(Ljava/lang/String;)V" } : Jvm.MethodName) ∈ TB := tb_m6 (List.mem_of_getElem? (i := 33) rfl)
theorem mb_334 : Jvm.Cond.instanceMethod ({ cls := "java/lang/IllegalArgumentException", name := "<init>", desc := "(Ljava/lang/String;)V" } : Jvm.MethodName) ∈ TB := tb_m6 (List.mem_of_getElem? (i := 34) rfl)
theorem mb_335 : Jvm.Cond.code ({ cls := "java/lang/IllegalArgumentException", name := "<init>", desc := "(Ljava/lang/String;)V" } : Jvm.MethodName) prog_9_method_2_code (2 : Nat) (Option.none : Option Jvm.ClassFile.FieldType) ∈ TB := tb_m6 (List.mem_of_getElem? (i := 35) rfl)
theorem mb_336 : Jvm.Cond.methodLink "java/lang/IllegalArgumentException" (7 : Nat) ({ cls := "java/lang/RuntimeException", name := "<init>", desc := "(Ljava/lang/String;)V" } : Jvm.MethodName) ∈ TB := tb_m6 (List.mem_of_getElem? (i := 36) rfl)
theorem mb_337 : Jvm.Cond.lays "java/lang/IllegalArgumentException" "java/lang/Throwable" "depth" "I" ∈ TB := tb_m6 (List.mem_of_getElem? (i := 37) rfl)
theorem mb_338 : Jvm.Cond.superclass "java/lang/IllegalArgumentException" "java/lang/RuntimeException" ∈ TB := tb_m6 (List.mem_of_getElem? (i := 38) rfl)
theorem mb_339 : Jvm.Cond.methodLink "StableHeapLaw" (82 : Nat) ({ cls := "StableHeapLaw", name := "setInt", desc := "(LStableHeap;IIII[J)I" } : Jvm.MethodName) ∈ TB := tb_m6 (List.mem_of_getElem? (i := 39) rfl)
theorem mb_340 : Jvm.Cond.static ({ cls := "StableHeapLaw", name := "setInt", desc := "(LStableHeap;IIII[J)I" } : Jvm.MethodName) ∈ TB := tb_m6 (List.mem_of_getElem? (i := 40) rfl)
theorem mb_341 : Jvm.Cond.codeWith ({ cls := "StableHeapLaw", name := "setInt", desc := "(LStableHeap;IIII[J)I" } : Jvm.MethodName) method_5_code (7 : Nat) (Option.some Jvm.ClassFile.FieldType.int) [((0 : Nat), (14 : Nat), (17 : Nat), (21 : Nat)), ((0 : Nat), (14 : Nat), (21 : Nat), (29 : Nat)), ((0 : Nat), (14 : Nat), (25 : Nat), (13 : Nat)), ((0 : Nat), (14 : Nat), (29 : Nat), (15 : Nat))] ∈ TB := tb_m6 (List.mem_of_getElem? (i := 41) rfl)
theorem mb_342 : Jvm.Cond.classLink "StableHeapLaw" (29 : Nat) "java/lang/IndexOutOfBoundsException" ∈ TB := tb_m6 (List.mem_of_getElem? (i := 42) rfl)
theorem mb_343 : Jvm.Cond.methodLink "StableHeapLaw" (25 : Nat) ({ cls := "StableHeap", name := "setInt", desc := "(IIII)I" } : Jvm.MethodName) ∈ TB := tb_m6 (List.mem_of_getElem? (i := 43) rfl)
theorem mb_344 : Jvm.Cond.instanceMethod ({ cls := "StableHeap", name := "setInt", desc := "(IIII)I" } : Jvm.MethodName) ∈ TB := tb_m6 (List.mem_of_getElem? (i := 44) rfl)
theorem mb_345 : Jvm.Cond.selects "StableHeap" ({ cls := "StableHeap", name := "setInt", desc := "(IIII)I" } : Jvm.MethodName) ({ cls := "StableHeap", name := "setInt", desc := "(IIII)I" } : Jvm.MethodName) ∈ TB := tb_m6 (List.mem_of_getElem? (i := 45) rfl)
theorem mb_346 : Jvm.Cond.code ({ cls := "StableHeap", name := "setInt", desc := "(IIII)I" } : Jvm.MethodName) prog_1_method_4_code (8 : Nat) (Option.some Jvm.ClassFile.FieldType.int) ∈ TB := tb_m6 (List.mem_of_getElem? (i := 46) rfl)
theorem mb_347 : Jvm.Cond.methodLink "StableHeap" (78 : Nat) ({ cls := "StableHeap", name := "objectWith", desc := "(I)LStableHeap$Lockable;" } : Jvm.MethodName) ∈ TB := tb_m6 (List.mem_of_getElem? (i := 47) rfl)
theorem mb_348 : Jvm.Cond.instanceMethod ({ cls := "StableHeap", name := "objectWith", desc := "(I)LStableHeap$Lockable;" } : Jvm.MethodName) ∈ TB := tb_m6 (List.mem_of_getElem? (i := 48) rfl)
theorem mb_349 : Jvm.Cond.code ({ cls := "StableHeap", name := "objectWith", desc := "(I)LStableHeap$Lockable;" } : Jvm.MethodName) prog_1_method_21_code (3 : Nat) (Option.some (Jvm.ClassFile.FieldType.object "StableHeap$Lockable")) ∈ TB := tb_m6 (List.mem_of_getElem? (i := 49) rfl)
theorem mb_350 : Jvm.Cond.methodLink "StableHeap" (179 : Nat) ({ cls := "StableHeap", name := "findObject", desc := "(I)LStableHeap$Lockable;" } : Jvm.MethodName) ∈ TB := tb_m7 (List.mem_of_getElem? (i := 0) rfl)
theorem mb_351 : Jvm.Cond.instanceMethod ({ cls := "StableHeap", name := "findObject", desc := "(I)LStableHeap$Lockable;" } : Jvm.MethodName) ∈ TB := tb_m7 (List.mem_of_getElem? (i := 1) rfl)
theorem mb_352 : Jvm.Cond.code ({ cls := "StableHeap", name := "findObject", desc := "(I)LStableHeap$Lockable;" } : Jvm.MethodName) prog_1_method_22_code (3 : Nat) (Option.some (Jvm.ClassFile.FieldType.object "StableHeap$Lockable")) ∈ TB := tb_m7 (List.mem_of_getElem? (i := 2) rfl)
theorem mb_353 : Jvm.Cond.methodLink "StableHeap" (82 : Nat) ({ cls := "StableHeap", name := "fieldOf", desc := "(LStableHeap$Lockable;I)LStableHeap$Place;" } : Jvm.MethodName) ∈ TB := tb_m7 (List.mem_of_getElem? (i := 3) rfl)
theorem mb_354 : Jvm.Cond.static ({ cls := "StableHeap", name := "fieldOf", desc := "(LStableHeap$Lockable;I)LStableHeap$Place;" } : Jvm.MethodName) ∈ TB := tb_m7 (List.mem_of_getElem? (i := 4) rfl)
theorem mb_355 : Jvm.Cond.code ({ cls := "StableHeap", name := "fieldOf", desc := "(LStableHeap$Lockable;I)LStableHeap$Place;" } : Jvm.MethodName) prog_1_method_23_code (2 : Nat) (Option.some (Jvm.ClassFile.FieldType.object "StableHeap$Place")) ∈ TB := tb_m7 (List.mem_of_getElem? (i := 5) rfl)
theorem mb_356 : Jvm.Cond.classLink "StableHeap" (187 : Nat) "java/lang/IndexOutOfBoundsException" ∈ TB := tb_m7 (List.mem_of_getElem? (i := 6) rfl)
theorem mb_357 : Jvm.Cond.instantiable "java/lang/IndexOutOfBoundsException" (6 : Nat) ∈ TB := tb_m7 (List.mem_of_getElem? (i := 7) rfl)
theorem mb_358 : Jvm.Cond.selects "java/lang/IndexOutOfBoundsException" ({ cls := "java/lang/Throwable", name := "fillInStackTrace", desc := "(I)Ljava/lang/Throwable;" } : Jvm.MethodName) ({ cls := "java/lang/Throwable", name := "fillInStackTrace", desc := "(I)Ljava/lang/Throwable;" } : Jvm.MethodName) ∈ TB := tb_m7 (List.mem_of_getElem? (i := 8) rfl)
theorem mb_359 : Jvm.Cond.lays "java/lang/IndexOutOfBoundsException" "java/lang/Throwable" "cause" "Ljava/lang/Throwable;" ∈ TB := tb_m7 (List.mem_of_getElem? (i := 9) rfl)
theorem mb_360 : Jvm.Cond.lays "java/lang/IndexOutOfBoundsException" "java/lang/Throwable" "stackTrace" "[Ljava/lang/StackTraceElement;" ∈ TB := tb_m7 (List.mem_of_getElem? (i := 10) rfl)
theorem mb_361 : Jvm.Cond.lays "java/lang/IndexOutOfBoundsException" "java/lang/Throwable" "suppressedExceptions" "Ljava/util/List;" ∈ TB := tb_m7 (List.mem_of_getElem? (i := 11) rfl)
theorem mb_362 : Jvm.Cond.lays "java/lang/IndexOutOfBoundsException" "java/lang/Throwable" "detailMessage" "Ljava/lang/String;" ∈ TB := tb_m7 (List.mem_of_getElem? (i := 12) rfl)
theorem mb_363 : Jvm.Cond.lays "java/lang/IndexOutOfBoundsException" "java/lang/Throwable" "backtrace" "Ljava/lang/Object;" ∈ TB := tb_m7 (List.mem_of_getElem? (i := 13) rfl)
theorem mb_364 : Jvm.Cond.methodLink "StableHeap" (191 : Nat) ({ cls := "java/lang/IndexOutOfBoundsException", name := "<init>", desc := "(Ljava/lang/String;)V" } : Jvm.MethodName) ∈ TB := tb_m7 (List.mem_of_getElem? (i := 14) rfl)
theorem mb_365 : Jvm.Cond.instanceMethod ({ cls := "java/lang/IndexOutOfBoundsException", name := "<init>", desc := "(Ljava/lang/String;)V" } : Jvm.MethodName) ∈ TB := tb_m7 (List.mem_of_getElem? (i := 15) rfl)
theorem mb_366 : Jvm.Cond.code ({ cls := "java/lang/IndexOutOfBoundsException", name := "<init>", desc := "(Ljava/lang/String;)V" } : Jvm.MethodName) prog_11_method_2_code (2 : Nat) (Option.none : Option Jvm.ClassFile.FieldType) ∈ TB := tb_m7 (List.mem_of_getElem? (i := 16) rfl)
theorem mb_367 : Jvm.Cond.methodLink "java/lang/IndexOutOfBoundsException" (7 : Nat) ({ cls := "java/lang/RuntimeException", name := "<init>", desc := "(Ljava/lang/String;)V" } : Jvm.MethodName) ∈ TB := tb_m7 (List.mem_of_getElem? (i := 17) rfl)
theorem mb_368 : Jvm.Cond.lays "java/lang/IndexOutOfBoundsException" "java/lang/Throwable" "depth" "I" ∈ TB := tb_m7 (List.mem_of_getElem? (i := 18) rfl)
theorem mb_369 : Jvm.Cond.superclass "java/lang/IndexOutOfBoundsException" "java/lang/RuntimeException" ∈ TB := tb_m7 (List.mem_of_getElem? (i := 19) rfl)
theorem mb_370 : Jvm.Cond.methodLink "StableHeap" (86 : Nat) ({ cls := "StableHeap", name := "refuseIfLockedByAnother", desc := "(LStableHeap$Lockable;LStableHeap$Transaction;)V" } : Jvm.MethodName) ∈ TB := tb_m7 (List.mem_of_getElem? (i := 20) rfl)
theorem mb_371 : Jvm.Cond.static ({ cls := "StableHeap", name := "refuseIfLockedByAnother", desc := "(LStableHeap$Lockable;LStableHeap$Transaction;)V" } : Jvm.MethodName) ∈ TB := tb_m7 (List.mem_of_getElem? (i := 21) rfl)
theorem mb_372 : Jvm.Cond.code ({ cls := "StableHeap", name := "refuseIfLockedByAnother", desc := "(LStableHeap$Lockable;LStableHeap$Transaction;)V" } : Jvm.MethodName) prog_1_method_26_code (2 : Nat) (Option.none : Option Jvm.ClassFile.FieldType) ∈ TB := tb_m7 (List.mem_of_getElem? (i := 22) rfl)
theorem mb_373 : Jvm.Cond.methodLink "StableHeap" (90 : Nat) ({ cls := "StableHeap$Place", name := "putNumber", desc := "(I)V" } : Jvm.MethodName) ∈ TB := tb_m7 (List.mem_of_getElem? (i := 23) rfl)
theorem mb_374 : Jvm.Cond.instanceMethod ({ cls := "StableHeap$Place", name := "putNumber", desc := "(I)V" } : Jvm.MethodName) ∈ TB := tb_m7 (List.mem_of_getElem? (i := 24) rfl)
theorem mb_375 : Jvm.Cond.selects "StableHeap$Place" ({ cls := "StableHeap$Place", name := "putNumber", desc := "(I)V" } : Jvm.MethodName) ({ cls := "StableHeap$Place", name := "putNumber", desc := "(I)V" } : Jvm.MethodName) ∈ TB := tb_m7 (List.mem_of_getElem? (i := 25) rfl)
theorem mb_376 : Jvm.Cond.code ({ cls := "StableHeap$Place", name := "putNumber", desc := "(I)V" } : Jvm.MethodName) prog_3_method_2_code (2 : Nat) (Option.none : Option Jvm.ClassFile.FieldType) ∈ TB := tb_m7 (List.mem_of_getElem? (i := 26) rfl)
theorem mb_377 : Jvm.Cond.methodLink "StableHeap$Place" (7 : Nat) ({ cls := "StableHeap$Place", name := "rememberFormer", desc := "()V" } : Jvm.MethodName) ∈ TB := tb_m7 (List.mem_of_getElem? (i := 27) rfl)
theorem mb_378 : Jvm.Cond.instanceMethod ({ cls := "StableHeap$Place", name := "rememberFormer", desc := "()V" } : Jvm.MethodName) ∈ TB := tb_m7 (List.mem_of_getElem? (i := 28) rfl)
theorem mb_379 : Jvm.Cond.code ({ cls := "StableHeap$Place", name := "rememberFormer", desc := "()V" } : Jvm.MethodName) prog_3_method_6_code (1 : Nat) (Option.none : Option Jvm.ClassFile.FieldType) ∈ TB := tb_m7 (List.mem_of_getElem? (i := 29) rfl)
theorem mb_380 : Jvm.Cond.methodLink "StableHeapLaw" (86 : Nat) ({ cls := "StableHeapLaw", name := "setReference", desc := "(LStableHeap;IIII[J)I" } : Jvm.MethodName) ∈ TB := tb_m7 (List.mem_of_getElem? (i := 30) rfl)
theorem mb_381 : Jvm.Cond.static ({ cls := "StableHeapLaw", name := "setReference", desc := "(LStableHeap;IIII[J)I" } : Jvm.MethodName) ∈ TB := tb_m7 (List.mem_of_getElem? (i := 31) rfl)
theorem mb_382 : Jvm.Cond.codeWith ({ cls := "StableHeapLaw", name := "setReference", desc := "(LStableHeap;IIII[J)I" } : Jvm.MethodName) method_6_code (7 : Nat) (Option.some Jvm.ClassFile.FieldType.int) [((0 : Nat), (14 : Nat), (17 : Nat), (21 : Nat)), ((0 : Nat), (14 : Nat), (21 : Nat), (29 : Nat)), ((0 : Nat), (14 : Nat), (25 : Nat), (13 : Nat)), ((0 : Nat), (14 : Nat), (29 : Nat), (23 : Nat)), ((0 : Nat), (14 : Nat), (33 : Nat), (15 : Nat))] ∈ TB := tb_m7 (List.mem_of_getElem? (i := 32) rfl)
theorem mb_383 : Jvm.Cond.methodLink "StableHeapLaw" (31 : Nat) ({ cls := "StableHeap", name := "setReference", desc := "(IIII)I" } : Jvm.MethodName) ∈ TB := tb_m7 (List.mem_of_getElem? (i := 33) rfl)
theorem mb_384 : Jvm.Cond.instanceMethod ({ cls := "StableHeap", name := "setReference", desc := "(IIII)I" } : Jvm.MethodName) ∈ TB := tb_m7 (List.mem_of_getElem? (i := 34) rfl)
theorem mb_385 : Jvm.Cond.selects "StableHeap" ({ cls := "StableHeap", name := "setReference", desc := "(IIII)I" } : Jvm.MethodName) ({ cls := "StableHeap", name := "setReference", desc := "(IIII)I" } : Jvm.MethodName) ∈ TB := tb_m7 (List.mem_of_getElem? (i := 35) rfl)
theorem mb_386 : Jvm.Cond.code ({ cls := "StableHeap", name := "setReference", desc := "(IIII)I" } : Jvm.MethodName) prog_1_method_5_code (8 : Nat) (Option.some Jvm.ClassFile.FieldType.int) ∈ TB := tb_m7 (List.mem_of_getElem? (i := 36) rfl)
theorem mb_387 : Jvm.Cond.methodLink "StableHeap" (96 : Nat) ({ cls := "StableHeap", name := "refer", desc := "(LStableHeap$Transaction;LStableHeap$Lockable;LStableHeap$Place;I)V" } : Jvm.MethodName) ∈ TB := tb_m7 (List.mem_of_getElem? (i := 37) rfl)
theorem mb_388 : Jvm.Cond.instanceMethod ({ cls := "StableHeap", name := "refer", desc := "(LStableHeap$Transaction;LStableHeap$Lockable;LStableHeap$Place;I)V" } : Jvm.MethodName) ∈ TB := tb_m7 (List.mem_of_getElem? (i := 38) rfl)
theorem mb_389 : Jvm.Cond.code ({ cls := "StableHeap", name := "refer", desc := "(LStableHeap$Transaction;LStableHeap$Lockable;LStableHeap$Place;I)V" } : Jvm.MethodName) prog_1_method_28_code (6 : Nat) (Option.none : Option Jvm.ClassFile.FieldType) ∈ TB := tb_m7 (List.mem_of_getElem? (i := 39) rfl)
theorem mb_390 : Jvm.Cond.methodLink "StableHeap" (196 : Nat) ({ cls := "StableHeap$Place", name := "putReference", desc := "(LStableHeap$Lockable;)V" } : Jvm.MethodName) ∈ TB := tb_m7 (List.mem_of_getElem? (i := 40) rfl)
theorem mb_391 : Jvm.Cond.instanceMethod ({ cls := "StableHeap$Place", name := "putReference", desc := "(LStableHeap$Lockable;)V" } : Jvm.MethodName) ∈ TB := tb_m7 (List.mem_of_getElem? (i := 41) rfl)
theorem mb_392 : Jvm.Cond.selects "StableHeap$Place" ({ cls := "StableHeap$Place", name := "putReference", desc := "(LStableHeap$Lockable;)V" } : Jvm.MethodName) ({ cls := "StableHeap$Place", name := "putReference", desc := "(LStableHeap$Lockable;)V" } : Jvm.MethodName) ∈ TB := tb_m7 (List.mem_of_getElem? (i := 42) rfl)
theorem mb_393 : Jvm.Cond.code ({ cls := "StableHeap$Place", name := "putReference", desc := "(LStableHeap$Lockable;)V" } : Jvm.MethodName) prog_3_method_3_code (2 : Nat) (Option.none : Option Jvm.ClassFile.FieldType) ∈ TB := tb_m7 (List.mem_of_getElem? (i := 43) rfl)
theorem mb_394 : Jvm.Cond.methodLink "StableHeapLaw" (89 : Nat) ({ cls := "StableHeapLaw", name := "setRoot", desc := "(LStableHeap;III[J)I" } : Jvm.MethodName) ∈ TB := tb_m7 (List.mem_of_getElem? (i := 44) rfl)
theorem mb_395 : Jvm.Cond.static ({ cls := "StableHeapLaw", name := "setRoot", desc := "(LStableHeap;III[J)I" } : Jvm.MethodName) ∈ TB := tb_m7 (List.mem_of_getElem? (i := 45) rfl)
theorem mb_396 : Jvm.Cond.codeWith ({ cls := "StableHeapLaw", name := "setRoot", desc := "(LStableHeap;III[J)I" } : Jvm.MethodName) method_7_code (6 : Nat) (Option.some Jvm.ClassFile.FieldType.int) [((0 : Nat), (12 : Nat), (15 : Nat), (21 : Nat)), ((0 : Nat), (12 : Nat), (19 : Nat), (29 : Nat)), ((0 : Nat), (12 : Nat), (23 : Nat), (13 : Nat)), ((0 : Nat), (12 : Nat), (27 : Nat), (23 : Nat)), ((0 : Nat), (12 : Nat), (31 : Nat), (15 : Nat))] ∈ TB := tb_m7 (List.mem_of_getElem? (i := 46) rfl)
theorem mb_397 : Jvm.Cond.methodLink "StableHeapLaw" (34 : Nat) ({ cls := "StableHeap", name := "setRoot", desc := "(III)I" } : Jvm.MethodName) ∈ TB := tb_m7 (List.mem_of_getElem? (i := 47) rfl)
theorem mb_398 : Jvm.Cond.instanceMethod ({ cls := "StableHeap", name := "setRoot", desc := "(III)I" } : Jvm.MethodName) ∈ TB := tb_m7 (List.mem_of_getElem? (i := 48) rfl)
theorem mb_399 : Jvm.Cond.selects "StableHeap" ({ cls := "StableHeap", name := "setRoot", desc := "(III)I" } : Jvm.MethodName) ({ cls := "StableHeap", name := "setRoot", desc := "(III)I" } : Jvm.MethodName) ∈ TB := tb_m7 (List.mem_of_getElem? (i := 49) rfl)
theorem mb_400 : Jvm.Cond.code ({ cls := "StableHeap", name := "setRoot", desc := "(III)I" } : Jvm.MethodName) prog_1_method_6_code (6 : Nat) (Option.some Jvm.ClassFile.FieldType.int) ∈ TB := tb_m8 (List.mem_of_getElem? (i := 0) rfl)
theorem mb_401 : Jvm.Cond.methodLink "StableHeap" (100 : Nat) ({ cls := "StableHeap", name := "rootAt", desc := "(I)LStableHeap$Lockable;" } : Jvm.MethodName) ∈ TB := tb_m8 (List.mem_of_getElem? (i := 1) rfl)
theorem mb_402 : Jvm.Cond.instanceMethod ({ cls := "StableHeap", name := "rootAt", desc := "(I)LStableHeap$Lockable;" } : Jvm.MethodName) ∈ TB := tb_m8 (List.mem_of_getElem? (i := 2) rfl)
theorem mb_403 : Jvm.Cond.code ({ cls := "StableHeap", name := "rootAt", desc := "(I)LStableHeap$Lockable;" } : Jvm.MethodName) prog_1_method_24_code (2 : Nat) (Option.some (Jvm.ClassFile.FieldType.object "StableHeap$Lockable")) ∈ TB := tb_m8 (List.mem_of_getElem? (i := 3) rfl)
theorem mb_404 : Jvm.Cond.methodLink "StableHeapLaw" (93 : Nat) ({ cls := "StableHeapLaw", name := "getInt", desc := "(LStableHeap;III[J)I" } : Jvm.MethodName) ∈ TB := tb_m8 (List.mem_of_getElem? (i := 4) rfl)
theorem mb_405 : Jvm.Cond.static ({ cls := "StableHeapLaw", name := "getInt", desc := "(LStableHeap;III[J)I" } : Jvm.MethodName) ∈ TB := tb_m8 (List.mem_of_getElem? (i := 5) rfl)
theorem mb_406 : Jvm.Cond.codeWith ({ cls := "StableHeapLaw", name := "getInt", desc := "(LStableHeap;III[J)I" } : Jvm.MethodName) method_8_code (6 : Nat) (Option.some Jvm.ClassFile.FieldType.int) [((0 : Nat), (12 : Nat), (15 : Nat), (21 : Nat)), ((0 : Nat), (12 : Nat), (19 : Nat), (29 : Nat)), ((0 : Nat), (12 : Nat), (23 : Nat), (13 : Nat)), ((0 : Nat), (12 : Nat), (27 : Nat), (41 : Nat))] ∈ TB := tb_m8 (List.mem_of_getElem? (i := 6) rfl)
theorem mb_407 : Jvm.Cond.classLink "StableHeapLaw" (41 : Nat) "java/lang/ArithmeticException" ∈ TB := tb_m8 (List.mem_of_getElem? (i := 7) rfl)
theorem mb_408 : Jvm.Cond.methodLink "StableHeapLaw" (38 : Nat) ({ cls := "StableHeap", name := "getInt", desc := "(III)I" } : Jvm.MethodName) ∈ TB := tb_m8 (List.mem_of_getElem? (i := 8) rfl)
theorem mb_409 : Jvm.Cond.instanceMethod ({ cls := "StableHeap", name := "getInt", desc := "(III)I" } : Jvm.MethodName) ∈ TB := tb_m8 (List.mem_of_getElem? (i := 9) rfl)
theorem mb_410 : Jvm.Cond.selects "StableHeap" ({ cls := "StableHeap", name := "getInt", desc := "(III)I" } : Jvm.MethodName) ({ cls := "StableHeap", name := "getInt", desc := "(III)I" } : Jvm.MethodName) ∈ TB := tb_m8 (List.mem_of_getElem? (i := 10) rfl)
theorem mb_411 : Jvm.Cond.code ({ cls := "StableHeap", name := "getInt", desc := "(III)I" } : Jvm.MethodName) prog_1_method_7_code (5 : Nat) (Option.some Jvm.ClassFile.FieldType.int) ∈ TB := tb_m8 (List.mem_of_getElem? (i := 11) rfl)
theorem mb_412 : Jvm.Cond.methodLink "StableHeap" (107 : Nat) ({ cls := "StableHeap", name := "readField", desc := "(III)LStableHeap$Place;" } : Jvm.MethodName) ∈ TB := tb_m8 (List.mem_of_getElem? (i := 12) rfl)
theorem mb_413 : Jvm.Cond.instanceMethod ({ cls := "StableHeap", name := "readField", desc := "(III)LStableHeap$Place;" } : Jvm.MethodName) ∈ TB := tb_m8 (List.mem_of_getElem? (i := 13) rfl)
theorem mb_414 : Jvm.Cond.code ({ cls := "StableHeap", name := "readField", desc := "(III)LStableHeap$Place;" } : Jvm.MethodName) prog_1_method_27_code (7 : Nat) (Option.some (Jvm.ClassFile.FieldType.object "StableHeap$Place")) ∈ TB := tb_m8 (List.mem_of_getElem? (i := 14) rfl)
theorem mb_415 : Jvm.Cond.classLink "StableHeap" (115 : Nat) "java/lang/ArithmeticException" ∈ TB := tb_m8 (List.mem_of_getElem? (i := 15) rfl)
theorem mb_416 : Jvm.Cond.instantiable "java/lang/ArithmeticException" (6 : Nat) ∈ TB := tb_m8 (List.mem_of_getElem? (i := 16) rfl)
theorem mb_417 : Jvm.Cond.selects "java/lang/ArithmeticException" ({ cls := "java/lang/Throwable", name := "fillInStackTrace", desc := "(I)Ljava/lang/Throwable;" } : Jvm.MethodName) ({ cls := "java/lang/Throwable", name := "fillInStackTrace", desc := "(I)Ljava/lang/Throwable;" } : Jvm.MethodName) ∈ TB := tb_m8 (List.mem_of_getElem? (i := 17) rfl)
theorem mb_418 : Jvm.Cond.lays "java/lang/ArithmeticException" "java/lang/Throwable" "cause" "Ljava/lang/Throwable;" ∈ TB := tb_m8 (List.mem_of_getElem? (i := 18) rfl)
theorem mb_419 : Jvm.Cond.lays "java/lang/ArithmeticException" "java/lang/Throwable" "stackTrace" "[Ljava/lang/StackTraceElement;" ∈ TB := tb_m8 (List.mem_of_getElem? (i := 19) rfl)
theorem mb_420 : Jvm.Cond.lays "java/lang/ArithmeticException" "java/lang/Throwable" "suppressedExceptions" "Ljava/util/List;" ∈ TB := tb_m8 (List.mem_of_getElem? (i := 20) rfl)
theorem mb_421 : Jvm.Cond.lays "java/lang/ArithmeticException" "java/lang/Throwable" "detailMessage" "Ljava/lang/String;" ∈ TB := tb_m8 (List.mem_of_getElem? (i := 21) rfl)
theorem mb_422 : Jvm.Cond.lays "java/lang/ArithmeticException" "java/lang/Throwable" "backtrace" "Ljava/lang/Object;" ∈ TB := tb_m8 (List.mem_of_getElem? (i := 22) rfl)
theorem mb_423 : Jvm.Cond.methodLink "StableHeap" (119 : Nat) ({ cls := "java/lang/ArithmeticException", name := "<init>", desc := "(Ljava/lang/String;)V" } : Jvm.MethodName) ∈ TB := tb_m8 (List.mem_of_getElem? (i := 23) rfl)
theorem mb_424 : Jvm.Cond.instanceMethod ({ cls := "java/lang/ArithmeticException", name := "<init>", desc := "(Ljava/lang/String;)V" } : Jvm.MethodName) ∈ TB := tb_m8 (List.mem_of_getElem? (i := 24) rfl)
theorem mb_425 : Jvm.Cond.code ({ cls := "java/lang/ArithmeticException", name := "<init>", desc := "(Ljava/lang/String;)V" } : Jvm.MethodName) prog_7_method_2_code (2 : Nat) (Option.none : Option Jvm.ClassFile.FieldType) ∈ TB := tb_m8 (List.mem_of_getElem? (i := 25) rfl)
theorem mb_426 : Jvm.Cond.methodLink "java/lang/ArithmeticException" (7 : Nat) ({ cls := "java/lang/RuntimeException", name := "<init>", desc := "(Ljava/lang/String;)V" } : Jvm.MethodName) ∈ TB := tb_m8 (List.mem_of_getElem? (i := 26) rfl)
theorem mb_427 : Jvm.Cond.lays "java/lang/ArithmeticException" "java/lang/Throwable" "depth" "I" ∈ TB := tb_m8 (List.mem_of_getElem? (i := 27) rfl)
theorem mb_428 : Jvm.Cond.superclass "java/lang/ArithmeticException" "java/lang/RuntimeException" ∈ TB := tb_m8 (List.mem_of_getElem? (i := 28) rfl)
theorem mb_429 : Jvm.Cond.methodLink "StableHeapLaw" (96 : Nat) ({ cls := "StableHeapLaw", name := "getReference", desc := "(LStableHeap;III[J)I" } : Jvm.MethodName) ∈ TB := tb_m8 (List.mem_of_getElem? (i := 29) rfl)
theorem mb_430 : Jvm.Cond.static ({ cls := "StableHeapLaw", name := "getReference", desc := "(LStableHeap;III[J)I" } : Jvm.MethodName) ∈ TB := tb_m8 (List.mem_of_getElem? (i := 30) rfl)
theorem mb_431 : Jvm.Cond.codeWith ({ cls := "StableHeapLaw", name := "getReference", desc := "(LStableHeap;III[J)I" } : Jvm.MethodName) method_9_code (6 : Nat) (Option.some Jvm.ClassFile.FieldType.int) [((0 : Nat), (12 : Nat), (15 : Nat), (21 : Nat)), ((0 : Nat), (12 : Nat), (19 : Nat), (29 : Nat)), ((0 : Nat), (12 : Nat), (23 : Nat), (13 : Nat)), ((0 : Nat), (12 : Nat), (27 : Nat), (41 : Nat))] ∈ TB := tb_m8 (List.mem_of_getElem? (i := 31) rfl)
theorem mb_432 : Jvm.Cond.methodLink "StableHeapLaw" (43 : Nat) ({ cls := "StableHeap", name := "getReference", desc := "(III)I" } : Jvm.MethodName) ∈ TB := tb_m8 (List.mem_of_getElem? (i := 32) rfl)
theorem mb_433 : Jvm.Cond.instanceMethod ({ cls := "StableHeap", name := "getReference", desc := "(III)I" } : Jvm.MethodName) ∈ TB := tb_m8 (List.mem_of_getElem? (i := 33) rfl)
theorem mb_434 : Jvm.Cond.selects "StableHeap" ({ cls := "StableHeap", name := "getReference", desc := "(III)I" } : Jvm.MethodName) ({ cls := "StableHeap", name := "getReference", desc := "(III)I" } : Jvm.MethodName) ∈ TB := tb_m8 (List.mem_of_getElem? (i := 34) rfl)
theorem mb_435 : Jvm.Cond.code ({ cls := "StableHeap", name := "getReference", desc := "(III)I" } : Jvm.MethodName) prog_1_method_8_code (5 : Nat) (Option.some Jvm.ClassFile.FieldType.int) ∈ TB := tb_m8 (List.mem_of_getElem? (i := 35) rfl)
theorem mb_436 : Jvm.Cond.methodLink "StableHeap" (127 : Nat) ({ cls := "StableHeap", name := "handleOf", desc := "(LStableHeap$Lockable;)I" } : Jvm.MethodName) ∈ TB := tb_m8 (List.mem_of_getElem? (i := 36) rfl)
theorem mb_437 : Jvm.Cond.static ({ cls := "StableHeap", name := "handleOf", desc := "(LStableHeap$Lockable;)I" } : Jvm.MethodName) ∈ TB := tb_m8 (List.mem_of_getElem? (i := 37) rfl)
theorem mb_438 : Jvm.Cond.code ({ cls := "StableHeap", name := "handleOf", desc := "(LStableHeap$Lockable;)I" } : Jvm.MethodName) prog_1_method_25_code (1 : Nat) (Option.some Jvm.ClassFile.FieldType.int) ∈ TB := tb_m8 (List.mem_of_getElem? (i := 38) rfl)
theorem mb_439 : Jvm.Cond.methodLink "StableHeapLaw" (99 : Nat) ({ cls := "StableHeapLaw", name := "getRoot", desc := "(LStableHeap;II[J)I" } : Jvm.MethodName) ∈ TB := tb_m8 (List.mem_of_getElem? (i := 39) rfl)
theorem mb_440 : Jvm.Cond.static ({ cls := "StableHeapLaw", name := "getRoot", desc := "(LStableHeap;II[J)I" } : Jvm.MethodName) ∈ TB := tb_m8 (List.mem_of_getElem? (i := 40) rfl)
theorem mb_441 : Jvm.Cond.codeWith ({ cls := "StableHeapLaw", name := "getRoot", desc := "(LStableHeap;II[J)I" } : Jvm.MethodName) method_10_code (5 : Nat) (Option.some Jvm.ClassFile.FieldType.int) [((0 : Nat), (10 : Nat), (13 : Nat), (21 : Nat)), ((0 : Nat), (10 : Nat), (17 : Nat), (29 : Nat)), ((0 : Nat), (10 : Nat), (21 : Nat), (13 : Nat))] ∈ TB := tb_m8 (List.mem_of_getElem? (i := 41) rfl)
theorem mb_442 : Jvm.Cond.methodLink "StableHeapLaw" (46 : Nat) ({ cls := "StableHeap", name := "getRoot", desc := "(II)I" } : Jvm.MethodName) ∈ TB := tb_m8 (List.mem_of_getElem? (i := 42) rfl)
theorem mb_443 : Jvm.Cond.instanceMethod ({ cls := "StableHeap", name := "getRoot", desc := "(II)I" } : Jvm.MethodName) ∈ TB := tb_m8 (List.mem_of_getElem? (i := 43) rfl)
theorem mb_444 : Jvm.Cond.selects "StableHeap" ({ cls := "StableHeap", name := "getRoot", desc := "(II)I" } : Jvm.MethodName) ({ cls := "StableHeap", name := "getRoot", desc := "(II)I" } : Jvm.MethodName) ∈ TB := tb_m8 (List.mem_of_getElem? (i := 44) rfl)
theorem mb_445 : Jvm.Cond.code ({ cls := "StableHeap", name := "getRoot", desc := "(II)I" } : Jvm.MethodName) prog_1_method_9_code (5 : Nat) (Option.some Jvm.ClassFile.FieldType.int) ∈ TB := tb_m8 (List.mem_of_getElem? (i := 45) rfl)
theorem mb_446 : Jvm.Cond.methodLink "StableHeapLaw" (102 : Nat) ({ cls := "StableHeapLaw", name := "commit", desc := "(LStableHeap;I[J)I" } : Jvm.MethodName) ∈ TB := tb_m8 (List.mem_of_getElem? (i := 46) rfl)
theorem mb_447 : Jvm.Cond.static ({ cls := "StableHeapLaw", name := "commit", desc := "(LStableHeap;I[J)I" } : Jvm.MethodName) ∈ TB := tb_m8 (List.mem_of_getElem? (i := 47) rfl)
theorem mb_448 : Jvm.Cond.codeWith ({ cls := "StableHeapLaw", name := "commit", desc := "(LStableHeap;I[J)I" } : Jvm.MethodName) method_11_code (4 : Nat) (Option.some Jvm.ClassFile.FieldType.int) [((0 : Nat), (9 : Nat), (12 : Nat), (21 : Nat)), ((0 : Nat), (9 : Nat), (15 : Nat), (15 : Nat))] ∈ TB := tb_m8 (List.mem_of_getElem? (i := 48) rfl)
theorem mb_449 : Jvm.Cond.methodLink "StableHeapLaw" (49 : Nat) ({ cls := "StableHeap", name := "commit", desc := "(I)I" } : Jvm.MethodName) ∈ TB := tb_m8 (List.mem_of_getElem? (i := 49) rfl)
theorem mb_450 : Jvm.Cond.instanceMethod ({ cls := "StableHeap", name := "commit", desc := "(I)I" } : Jvm.MethodName) ∈ TB := tb_m9 (List.mem_of_getElem? (i := 0) rfl)
theorem mb_451 : Jvm.Cond.selects "StableHeap" ({ cls := "StableHeap", name := "commit", desc := "(I)I" } : Jvm.MethodName) ({ cls := "StableHeap", name := "commit", desc := "(I)I" } : Jvm.MethodName) ∈ TB := tb_m9 (List.mem_of_getElem? (i := 1) rfl)
theorem mb_452 : Jvm.Cond.code ({ cls := "StableHeap", name := "commit", desc := "(I)I" } : Jvm.MethodName) prog_1_method_10_code (3 : Nat) (Option.some Jvm.ClassFile.FieldType.int) ∈ TB := tb_m9 (List.mem_of_getElem? (i := 2) rfl)
theorem mb_453 : Jvm.Cond.methodLink "StableHeapLaw" (106 : Nat) ({ cls := "StableHeapLaw", name := "abort", desc := "(LStableHeap;I[J)I" } : Jvm.MethodName) ∈ TB := tb_m9 (List.mem_of_getElem? (i := 3) rfl)
theorem mb_454 : Jvm.Cond.static ({ cls := "StableHeapLaw", name := "abort", desc := "(LStableHeap;I[J)I" } : Jvm.MethodName) ∈ TB := tb_m9 (List.mem_of_getElem? (i := 4) rfl)
theorem mb_455 : Jvm.Cond.codeWith ({ cls := "StableHeapLaw", name := "abort", desc := "(LStableHeap;I[J)I" } : Jvm.MethodName) method_12_code (4 : Nat) (Option.some Jvm.ClassFile.FieldType.int) [((0 : Nat), (9 : Nat), (12 : Nat), (21 : Nat))] ∈ TB := tb_m9 (List.mem_of_getElem? (i := 5) rfl)
theorem mb_456 : Jvm.Cond.methodLink "StableHeapLaw" (53 : Nat) ({ cls := "StableHeap", name := "abort", desc := "(I)I" } : Jvm.MethodName) ∈ TB := tb_m9 (List.mem_of_getElem? (i := 6) rfl)
theorem mb_457 : Jvm.Cond.instanceMethod ({ cls := "StableHeap", name := "abort", desc := "(I)I" } : Jvm.MethodName) ∈ TB := tb_m9 (List.mem_of_getElem? (i := 7) rfl)
theorem mb_458 : Jvm.Cond.selects "StableHeap" ({ cls := "StableHeap", name := "abort", desc := "(I)I" } : Jvm.MethodName) ({ cls := "StableHeap", name := "abort", desc := "(I)I" } : Jvm.MethodName) ∈ TB := tb_m9 (List.mem_of_getElem? (i := 8) rfl)
theorem mb_459 : Jvm.Cond.code ({ cls := "StableHeap", name := "abort", desc := "(I)I" } : Jvm.MethodName) prog_1_method_11_code (2 : Nat) (Option.some Jvm.ClassFile.FieldType.int) ∈ TB := tb_m9 (List.mem_of_getElem? (i := 9) rfl)
theorem mb_460 : Jvm.Cond.methodLink "StableHeapLaw" (121 : Nat) ({ cls := "StableHeapLaw", name := "fields", desc := "(LStableHeap;I[J)I" } : Jvm.MethodName) ∈ TB := tb_m9 (List.mem_of_getElem? (i := 10) rfl)
theorem mb_461 : Jvm.Cond.static ({ cls := "StableHeapLaw", name := "fields", desc := "(LStableHeap;I[J)I" } : Jvm.MethodName) ∈ TB := tb_m9 (List.mem_of_getElem? (i := 11) rfl)
theorem mb_462 : Jvm.Cond.codeWith ({ cls := "StableHeapLaw", name := "fields", desc := "(LStableHeap;I[J)I" } : Jvm.MethodName) method_13_code (4 : Nat) (Option.some Jvm.ClassFile.FieldType.int) [((0 : Nat), (9 : Nat), (12 : Nat), (21 : Nat))] ∈ TB := tb_m9 (List.mem_of_getElem? (i := 12) rfl)
theorem mb_463 : Jvm.Cond.methodLink "StableHeapLaw" (56 : Nat) ({ cls := "StableHeap", name := "fields", desc := "(I)I" } : Jvm.MethodName) ∈ TB := tb_m9 (List.mem_of_getElem? (i := 13) rfl)
theorem mb_464 : Jvm.Cond.instanceMethod ({ cls := "StableHeap", name := "fields", desc := "(I)I" } : Jvm.MethodName) ∈ TB := tb_m9 (List.mem_of_getElem? (i := 14) rfl)
theorem mb_465 : Jvm.Cond.selects "StableHeap" ({ cls := "StableHeap", name := "fields", desc := "(I)I" } : Jvm.MethodName) ({ cls := "StableHeap", name := "fields", desc := "(I)I" } : Jvm.MethodName) ∈ TB := tb_m9 (List.mem_of_getElem? (i := 15) rfl)
theorem mb_466 : Jvm.Cond.code ({ cls := "StableHeap", name := "fields", desc := "(I)I" } : Jvm.MethodName) prog_1_method_15_code (2 : Nat) (Option.some Jvm.ClassFile.FieldType.int) ∈ TB := tb_m9 (List.mem_of_getElem? (i := 16) rfl)
theorem mb_467 : Jvm.Cond.methodLink "StableHeapLaw" (124 : Nat) ({ cls := "StableHeapLaw", name := "lockedBy", desc := "(LStableHeap;II[J)I" } : Jvm.MethodName) ∈ TB := tb_m9 (List.mem_of_getElem? (i := 17) rfl)
theorem mb_468 : Jvm.Cond.static ({ cls := "StableHeapLaw", name := "lockedBy", desc := "(LStableHeap;II[J)I" } : Jvm.MethodName) ∈ TB := tb_m9 (List.mem_of_getElem? (i := 18) rfl)
theorem mb_469 : Jvm.Cond.codeWith ({ cls := "StableHeapLaw", name := "lockedBy", desc := "(LStableHeap;II[J)I" } : Jvm.MethodName) method_14_code (5 : Nat) (Option.some Jvm.ClassFile.FieldType.int) [((0 : Nat), (10 : Nat), (13 : Nat), (21 : Nat))] ∈ TB := tb_m9 (List.mem_of_getElem? (i := 19) rfl)
theorem mb_470 : Jvm.Cond.methodLink "StableHeapLaw" (59 : Nat) ({ cls := "StableHeap", name := "lockedBy", desc := "(II)I" } : Jvm.MethodName) ∈ TB := tb_m9 (List.mem_of_getElem? (i := 20) rfl)
theorem mb_471 : Jvm.Cond.instanceMethod ({ cls := "StableHeap", name := "lockedBy", desc := "(II)I" } : Jvm.MethodName) ∈ TB := tb_m9 (List.mem_of_getElem? (i := 21) rfl)
theorem mb_472 : Jvm.Cond.selects "StableHeap" ({ cls := "StableHeap", name := "lockedBy", desc := "(II)I" } : Jvm.MethodName) ({ cls := "StableHeap", name := "lockedBy", desc := "(II)I" } : Jvm.MethodName) ∈ TB := tb_m9 (List.mem_of_getElem? (i := 22) rfl)
theorem mb_473 : Jvm.Cond.code ({ cls := "StableHeap", name := "lockedBy", desc := "(II)I" } : Jvm.MethodName) prog_1_method_16_code (3 : Nat) (Option.some Jvm.ClassFile.FieldType.int) ∈ TB := tb_m9 (List.mem_of_getElem? (i := 23) rfl)
theorem mb_474 : Jvm.Cond.methodLink "StableHeapLaw" (127 : Nat) ({ cls := "StableHeapLaw", name := "count", desc := "(LStableHeap;I[J)I" } : Jvm.MethodName) ∈ TB := tb_m9 (List.mem_of_getElem? (i := 24) rfl)
theorem mb_475 : Jvm.Cond.static ({ cls := "StableHeapLaw", name := "count", desc := "(LStableHeap;I[J)I" } : Jvm.MethodName) ∈ TB := tb_m9 (List.mem_of_getElem? (i := 25) rfl)
theorem mb_476 : Jvm.Cond.codeWith ({ cls := "StableHeapLaw", name := "count", desc := "(LStableHeap;I[J)I" } : Jvm.MethodName) method_15_code (4 : Nat) (Option.some Jvm.ClassFile.FieldType.int) [((0 : Nat), (9 : Nat), (12 : Nat), (23 : Nat))] ∈ TB := tb_m9 (List.mem_of_getElem? (i := 26) rfl)
theorem mb_477 : Jvm.Cond.methodLink "StableHeapLaw" (62 : Nat) ({ cls := "StableHeap", name := "count", desc := "(I)I" } : Jvm.MethodName) ∈ TB := tb_m9 (List.mem_of_getElem? (i := 27) rfl)
theorem mb_478 : Jvm.Cond.instanceMethod ({ cls := "StableHeap", name := "count", desc := "(I)I" } : Jvm.MethodName) ∈ TB := tb_m9 (List.mem_of_getElem? (i := 28) rfl)
theorem mb_479 : Jvm.Cond.selects "StableHeap" ({ cls := "StableHeap", name := "count", desc := "(I)I" } : Jvm.MethodName) ({ cls := "StableHeap", name := "count", desc := "(I)I" } : Jvm.MethodName) ∈ TB := tb_m9 (List.mem_of_getElem? (i := 29) rfl)
theorem mb_480 : Jvm.Cond.code ({ cls := "StableHeap", name := "count", desc := "(I)I" } : Jvm.MethodName) prog_1_method_17_code (2 : Nat) (Option.some Jvm.ClassFile.FieldType.int) ∈ TB := tb_m9 (List.mem_of_getElem? (i := 30) rfl)
theorem mb_481 : Jvm.Cond.methodLink "StableHeap" (167 : Nat) ({ cls := "StableHeap", name := "activeTransactions", desc := "()I" } : Jvm.MethodName) ∈ TB := tb_m9 (List.mem_of_getElem? (i := 31) rfl)
theorem mb_482 : Jvm.Cond.instanceMethod ({ cls := "StableHeap", name := "activeTransactions", desc := "()I" } : Jvm.MethodName) ∈ TB := tb_m9 (List.mem_of_getElem? (i := 32) rfl)
theorem mb_483 : Jvm.Cond.code ({ cls := "StableHeap", name := "activeTransactions", desc := "()I" } : Jvm.MethodName) prog_1_method_20_code (3 : Nat) (Option.some Jvm.ClassFile.FieldType.int) ∈ TB := tb_m9 (List.mem_of_getElem? (i := 33) rfl)
theorem mb_484 : Jvm.Cond.classLink "StableHeapLaw" (66 : Nat) "StableHeapModel" ∈ TB := tb_m9 (List.mem_of_getElem? (i := 34) rfl)
theorem mb_485 : Jvm.Cond.instantiable "StableHeapModel" (21 : Nat) ∈ TB := tb_m9 (List.mem_of_getElem? (i := 35) rfl)
theorem mb_486 : Jvm.Cond.methodLink "StableHeapLaw" (68 : Nat) ({ cls := "StableHeapModel", name := "<init>", desc := "()V" } : Jvm.MethodName) ∈ TB := tb_m9 (List.mem_of_getElem? (i := 36) rfl)
theorem mb_487 : Jvm.Cond.instanceMethod ({ cls := "StableHeapModel", name := "<init>", desc := "()V" } : Jvm.MethodName) ∈ TB := tb_m9 (List.mem_of_getElem? (i := 37) rfl)
theorem mb_488 : Jvm.Cond.code ({ cls := "StableHeapModel", name := "<init>", desc := "()V" } : Jvm.MethodName) prog_6_method_1_code (1 : Nat) (Option.none : Option Jvm.ClassFile.FieldType) ∈ TB := tb_m9 (List.mem_of_getElem? (i := 38) rfl)
theorem mb_489 : Jvm.Cond.methodLink "StableHeapModel" (1 : Nat) ({ cls := "java/lang/Object", name := "<init>", desc := "()V" } : Jvm.MethodName) ∈ TB := tb_m9 (List.mem_of_getElem? (i := 39) rfl)
theorem mb_490 : Jvm.Cond.fieldLink "StableHeapModel" (53 : Nat) "StableHeapModel" "code" "I" ∈ TB := tb_m9 (List.mem_of_getElem? (i := 40) rfl)
theorem mb_491 : Jvm.Cond.fieldLink "StableHeapModel" (7 : Nat) "StableHeapModel" "handle" "[I" ∈ TB := tb_m9 (List.mem_of_getElem? (i := 41) rfl)
theorem mb_492 : Jvm.Cond.fieldLink "StableHeapModel" (13 : Nat) "StableHeapModel" "size" "[I" ∈ TB := tb_m9 (List.mem_of_getElem? (i := 42) rfl)
theorem mb_493 : Jvm.Cond.fieldLink "StableHeapModel" (16 : Nat) "StableHeapModel" "lock" "[I" ∈ TB := tb_m9 (List.mem_of_getElem? (i := 43) rfl)
theorem mb_494 : Jvm.Cond.fieldLink "StableHeapModel" (19 : Nat) "StableHeapModel" "refers" "[Z" ∈ TB := tb_m9 (List.mem_of_getElem? (i := 44) rfl)
theorem mb_495 : Jvm.Cond.fieldLink "StableHeapModel" (23 : Nat) "StableHeapModel" "value" "[I" ∈ TB := tb_m9 (List.mem_of_getElem? (i := 45) rfl)
theorem mb_496 : Jvm.Cond.fieldLink "StableHeapModel" (26 : Nat) "StableHeapModel" "held" "[Z" ∈ TB := tb_m9 (List.mem_of_getElem? (i := 46) rfl)
theorem mb_497 : Jvm.Cond.fieldLink "StableHeapModel" (29 : Nat) "StableHeapModel" "root" "[I" ∈ TB := tb_m9 (List.mem_of_getElem? (i := 47) rfl)
theorem mb_498 : Jvm.Cond.fieldLink "StableHeapModel" (32 : Nat) "StableHeapModel" "rootLock" "[I" ∈ TB := tb_m9 (List.mem_of_getElem? (i := 48) rfl)
theorem mb_499 : Jvm.Cond.fieldLink "StableHeapModel" (84 : Nat) "StableHeapModel" "given" "I" ∈ TB := tb_m9 (List.mem_of_getElem? (i := 49) rfl)
theorem mb_500 : Jvm.Cond.fieldLink "StableHeapModel" (81 : Nat) "StableHeapModel" "used" "I" ∈ TB := tb_m10 (List.mem_of_getElem? (i := 0) rfl)
theorem mb_501 : Jvm.Cond.fieldLink "StableHeapModel" (35 : Nat) "StableHeapModel" "active" "[I" ∈ TB := tb_m10 (List.mem_of_getElem? (i := 1) rfl)
theorem mb_502 : Jvm.Cond.fieldLink "StableHeapModel" (38 : Nat) "StableHeapModel" "words" "[I" ∈ TB := tb_m10 (List.mem_of_getElem? (i := 2) rfl)
theorem mb_503 : Jvm.Cond.fieldLink "StableHeapModel" (71 : Nat) "StableHeapModel" "begun" "I" ∈ TB := tb_m10 (List.mem_of_getElem? (i := 3) rfl)
theorem mb_504 : Jvm.Cond.fieldLink "StableHeapModel" (57 : Nat) "StableHeapModel" "settled" "I" ∈ TB := tb_m10 (List.mem_of_getElem? (i := 4) rfl)
theorem mb_505 : Jvm.Cond.fieldLink "StableHeapModel" (144 : Nat) "StableHeapModel" "flips" "I" ∈ TB := tb_m10 (List.mem_of_getElem? (i := 5) rfl)
theorem mb_506 : Jvm.Cond.fieldLink "StableHeapModel" (41 : Nat) "StableHeapModel" "undoBy" "[I" ∈ TB := tb_m10 (List.mem_of_getElem? (i := 6) rfl)
theorem mb_507 : Jvm.Cond.fieldLink "StableHeapModel" (44 : Nat) "StableHeapModel" "undoCell" "[I" ∈ TB := tb_m10 (List.mem_of_getElem? (i := 7) rfl)
theorem mb_508 : Jvm.Cond.fieldLink "StableHeapModel" (47 : Nat) "StableHeapModel" "undoRefers" "[Z" ∈ TB := tb_m10 (List.mem_of_getElem? (i := 8) rfl)
theorem mb_509 : Jvm.Cond.fieldLink "StableHeapModel" (50 : Nat) "StableHeapModel" "undoValue" "[I" ∈ TB := tb_m10 (List.mem_of_getElem? (i := 9) rfl)
theorem mb_510 : Jvm.Cond.fieldLink "StableHeapModel" (90 : Nat) "StableHeapModel" "undos" "I" ∈ TB := tb_m10 (List.mem_of_getElem? (i := 10) rfl)
theorem mb_511 : Jvm.Cond.lays "StableHeapModel" "StableHeapModel" "code" "I" ∈ TB := tb_m10 (List.mem_of_getElem? (i := 11) rfl)
theorem mb_512 : Jvm.Cond.soleField "StableHeapModel" "code" ∈ TB := tb_m10 (List.mem_of_getElem? (i := 12) rfl)
theorem mb_513 : Jvm.Cond.laysFinal "StableHeapModel" "StableHeapModel" "handle" "[I" ∈ TB := tb_m10 (List.mem_of_getElem? (i := 13) rfl)
theorem mb_514 : Jvm.Cond.soleField "StableHeapModel" "handle" ∈ TB := tb_m10 (List.mem_of_getElem? (i := 14) rfl)
theorem mb_515 : Jvm.Cond.laysFinal "StableHeapModel" "StableHeapModel" "size" "[I" ∈ TB := tb_m10 (List.mem_of_getElem? (i := 15) rfl)
theorem mb_516 : Jvm.Cond.soleField "StableHeapModel" "size" ∈ TB := tb_m10 (List.mem_of_getElem? (i := 16) rfl)
theorem mb_517 : Jvm.Cond.laysFinal "StableHeapModel" "StableHeapModel" "lock" "[I" ∈ TB := tb_m10 (List.mem_of_getElem? (i := 17) rfl)
theorem mb_518 : Jvm.Cond.soleField "StableHeapModel" "lock" ∈ TB := tb_m10 (List.mem_of_getElem? (i := 18) rfl)
theorem mb_519 : Jvm.Cond.laysFinal "StableHeapModel" "StableHeapModel" "refers" "[Z" ∈ TB := tb_m10 (List.mem_of_getElem? (i := 19) rfl)
theorem mb_520 : Jvm.Cond.soleField "StableHeapModel" "refers" ∈ TB := tb_m10 (List.mem_of_getElem? (i := 20) rfl)
theorem mb_521 : Jvm.Cond.laysFinal "StableHeapModel" "StableHeapModel" "value" "[I" ∈ TB := tb_m10 (List.mem_of_getElem? (i := 21) rfl)
theorem mb_522 : Jvm.Cond.soleField "StableHeapModel" "value" ∈ TB := tb_m10 (List.mem_of_getElem? (i := 22) rfl)
theorem mb_523 : Jvm.Cond.laysFinal "StableHeapModel" "StableHeapModel" "held" "[Z" ∈ TB := tb_m10 (List.mem_of_getElem? (i := 23) rfl)
theorem mb_524 : Jvm.Cond.soleField "StableHeapModel" "held" ∈ TB := tb_m10 (List.mem_of_getElem? (i := 24) rfl)
theorem mb_525 : Jvm.Cond.laysFinal "StableHeapModel" "StableHeapModel" "root" "[I" ∈ TB := tb_m10 (List.mem_of_getElem? (i := 25) rfl)
theorem mb_526 : Jvm.Cond.soleField "StableHeapModel" "root" ∈ TB := tb_m10 (List.mem_of_getElem? (i := 26) rfl)
theorem mb_527 : Jvm.Cond.laysFinal "StableHeapModel" "StableHeapModel" "rootLock" "[I" ∈ TB := tb_m10 (List.mem_of_getElem? (i := 27) rfl)
theorem mb_528 : Jvm.Cond.soleField "StableHeapModel" "rootLock" ∈ TB := tb_m10 (List.mem_of_getElem? (i := 28) rfl)
theorem mb_529 : Jvm.Cond.lays "StableHeapModel" "StableHeapModel" "given" "I" ∈ TB := tb_m10 (List.mem_of_getElem? (i := 29) rfl)
theorem mb_530 : Jvm.Cond.soleField "StableHeapModel" "given" ∈ TB := tb_m10 (List.mem_of_getElem? (i := 30) rfl)
theorem mb_531 : Jvm.Cond.lays "StableHeapModel" "StableHeapModel" "used" "I" ∈ TB := tb_m10 (List.mem_of_getElem? (i := 31) rfl)
theorem mb_532 : Jvm.Cond.soleField "StableHeapModel" "used" ∈ TB := tb_m10 (List.mem_of_getElem? (i := 32) rfl)
theorem mb_533 : Jvm.Cond.laysFinal "StableHeapModel" "StableHeapModel" "active" "[I" ∈ TB := tb_m10 (List.mem_of_getElem? (i := 33) rfl)
theorem mb_534 : Jvm.Cond.soleField "StableHeapModel" "active" ∈ TB := tb_m10 (List.mem_of_getElem? (i := 34) rfl)
theorem mb_535 : Jvm.Cond.laysFinal "StableHeapModel" "StableHeapModel" "words" "[I" ∈ TB := tb_m10 (List.mem_of_getElem? (i := 35) rfl)
theorem mb_536 : Jvm.Cond.soleField "StableHeapModel" "words" ∈ TB := tb_m10 (List.mem_of_getElem? (i := 36) rfl)
theorem mb_537 : Jvm.Cond.lays "StableHeapModel" "StableHeapModel" "begun" "I" ∈ TB := tb_m10 (List.mem_of_getElem? (i := 37) rfl)
theorem mb_538 : Jvm.Cond.soleField "StableHeapModel" "begun" ∈ TB := tb_m10 (List.mem_of_getElem? (i := 38) rfl)
theorem mb_539 : Jvm.Cond.lays "StableHeapModel" "StableHeapModel" "settled" "I" ∈ TB := tb_m10 (List.mem_of_getElem? (i := 39) rfl)
theorem mb_540 : Jvm.Cond.soleField "StableHeapModel" "settled" ∈ TB := tb_m10 (List.mem_of_getElem? (i := 40) rfl)
theorem mb_541 : Jvm.Cond.lays "StableHeapModel" "StableHeapModel" "flips" "I" ∈ TB := tb_m10 (List.mem_of_getElem? (i := 41) rfl)
theorem mb_542 : Jvm.Cond.soleField "StableHeapModel" "flips" ∈ TB := tb_m10 (List.mem_of_getElem? (i := 42) rfl)
theorem mb_543 : Jvm.Cond.laysFinal "StableHeapModel" "StableHeapModel" "undoBy" "[I" ∈ TB := tb_m10 (List.mem_of_getElem? (i := 43) rfl)
theorem mb_544 : Jvm.Cond.soleField "StableHeapModel" "undoBy" ∈ TB := tb_m10 (List.mem_of_getElem? (i := 44) rfl)
theorem mb_545 : Jvm.Cond.laysFinal "StableHeapModel" "StableHeapModel" "undoCell" "[I" ∈ TB := tb_m10 (List.mem_of_getElem? (i := 45) rfl)
theorem mb_546 : Jvm.Cond.soleField "StableHeapModel" "undoCell" ∈ TB := tb_m10 (List.mem_of_getElem? (i := 46) rfl)
theorem mb_547 : Jvm.Cond.laysFinal "StableHeapModel" "StableHeapModel" "undoRefers" "[Z" ∈ TB := tb_m10 (List.mem_of_getElem? (i := 47) rfl)
theorem mb_548 : Jvm.Cond.soleField "StableHeapModel" "undoRefers" ∈ TB := tb_m10 (List.mem_of_getElem? (i := 48) rfl)
theorem mb_549 : Jvm.Cond.laysFinal "StableHeapModel" "StableHeapModel" "undoValue" "[I" ∈ TB := tb_m10 (List.mem_of_getElem? (i := 49) rfl)
theorem mb_550 : Jvm.Cond.soleField "StableHeapModel" "undoValue" ∈ TB := tb_m11 (List.mem_of_getElem? (i := 0) rfl)
theorem mb_551 : Jvm.Cond.lays "StableHeapModel" "StableHeapModel" "undos" "I" ∈ TB := tb_m11 (List.mem_of_getElem? (i := 1) rfl)
theorem mb_552 : Jvm.Cond.soleField "StableHeapModel" "undos" ∈ TB := tb_m11 (List.mem_of_getElem? (i := 2) rfl)
theorem mb_553 : Jvm.Cond.superclass "StableHeapModel" "java/lang/Object" ∈ TB := tb_m11 (List.mem_of_getElem? (i := 3) rfl)
theorem mb_554 : Jvm.Cond.arrayClass Jvm.ClassFile.FieldType.int ∈ TB := tb_m11 (List.mem_of_getElem? (i := 4) rfl)
theorem mb_555 : Jvm.Cond.arrayClass Jvm.ClassFile.FieldType.boolean ∈ TB := tb_m11 (List.mem_of_getElem? (i := 5) rfl)
theorem mb_556 : Jvm.Cond.methodLink "StableHeapLaw" (75 : Nat) ({ cls := "StableHeapModel", name := "thrown", desc := "()I" } : Jvm.MethodName) ∈ TB := tb_m11 (List.mem_of_getElem? (i := 6) rfl)
theorem mb_557 : Jvm.Cond.instanceMethod ({ cls := "StableHeapModel", name := "thrown", desc := "()I" } : Jvm.MethodName) ∈ TB := tb_m11 (List.mem_of_getElem? (i := 7) rfl)
theorem mb_558 : Jvm.Cond.selects "StableHeapModel" ({ cls := "StableHeapModel", name := "thrown", desc := "()I" } : Jvm.MethodName) ({ cls := "StableHeapModel", name := "thrown", desc := "()I" } : Jvm.MethodName) ∈ TB := tb_m11 (List.mem_of_getElem? (i := 8) rfl)
theorem mb_559 : Jvm.Cond.code ({ cls := "StableHeapModel", name := "thrown", desc := "()I" } : Jvm.MethodName) prog_6_method_2_code (1 : Nat) (Option.some Jvm.ClassFile.FieldType.int) ∈ TB := tb_m11 (List.mem_of_getElem? (i := 9) rfl)
theorem mb_560 : Jvm.Cond.methodLink "StableHeapLaw" (74 : Nat) ({ cls := "StableHeapModel", name := "begin", desc := "()I" } : Jvm.MethodName) ∈ TB := tb_m11 (List.mem_of_getElem? (i := 10) rfl)
theorem mb_561 : Jvm.Cond.instanceMethod ({ cls := "StableHeapModel", name := "begin", desc := "()I" } : Jvm.MethodName) ∈ TB := tb_m11 (List.mem_of_getElem? (i := 11) rfl)
theorem mb_562 : Jvm.Cond.selects "StableHeapModel" ({ cls := "StableHeapModel", name := "begin", desc := "()I" } : Jvm.MethodName) ({ cls := "StableHeapModel", name := "begin", desc := "()I" } : Jvm.MethodName) ∈ TB := tb_m11 (List.mem_of_getElem? (i := 12) rfl)
theorem mb_563 : Jvm.Cond.code ({ cls := "StableHeapModel", name := "begin", desc := "()I" } : Jvm.MethodName) prog_6_method_9_code (2 : Nat) (Option.some Jvm.ClassFile.FieldType.int) ∈ TB := tb_m11 (List.mem_of_getElem? (i := 13) rfl)
theorem mb_564 : Jvm.Cond.methodLink "StableHeapModel" (60 : Nat) ({ cls := "StableHeapModel", name := "actives", desc := "()I" } : Jvm.MethodName) ∈ TB := tb_m11 (List.mem_of_getElem? (i := 14) rfl)
theorem mb_565 : Jvm.Cond.instanceMethod ({ cls := "StableHeapModel", name := "actives", desc := "()I" } : Jvm.MethodName) ∈ TB := tb_m11 (List.mem_of_getElem? (i := 15) rfl)
theorem mb_566 : Jvm.Cond.code ({ cls := "StableHeapModel", name := "actives", desc := "()I" } : Jvm.MethodName) prog_6_method_8_code (3 : Nat) (Option.some Jvm.ClassFile.FieldType.int) ∈ TB := tb_m11 (List.mem_of_getElem? (i := 16) rfl)
theorem mb_567 : Jvm.Cond.methodLink "StableHeapModel" (64 : Nat) ({ cls := "StableHeapModel", name := "raise", desc := "(I)I" } : Jvm.MethodName) ∈ TB := tb_m11 (List.mem_of_getElem? (i := 17) rfl)
theorem mb_568 : Jvm.Cond.instanceMethod ({ cls := "StableHeapModel", name := "raise", desc := "(I)I" } : Jvm.MethodName) ∈ TB := tb_m11 (List.mem_of_getElem? (i := 18) rfl)
theorem mb_569 : Jvm.Cond.code ({ cls := "StableHeapModel", name := "raise", desc := "(I)I" } : Jvm.MethodName) prog_6_method_3_code (2 : Nat) (Option.some Jvm.ClassFile.FieldType.int) ∈ TB := tb_m11 (List.mem_of_getElem? (i := 19) rfl)
theorem mb_570 : Jvm.Cond.methodLink "StableHeapModel" (68 : Nat) ({ cls := "StableHeapModel", name := "log", desc := "()I" } : Jvm.MethodName) ∈ TB := tb_m11 (List.mem_of_getElem? (i := 20) rfl)
theorem mb_571 : Jvm.Cond.instanceMethod ({ cls := "StableHeapModel", name := "log", desc := "()I" } : Jvm.MethodName) ∈ TB := tb_m11 (List.mem_of_getElem? (i := 21) rfl)
theorem mb_572 : Jvm.Cond.code ({ cls := "StableHeapModel", name := "log", desc := "()I" } : Jvm.MethodName) prog_6_method_7_code (1 : Nat) (Option.some Jvm.ClassFile.FieldType.int) ∈ TB := tb_m11 (List.mem_of_getElem? (i := 22) rfl)
theorem mb_573 : Jvm.Cond.methodLink "StableHeapLaw" (81 : Nat) ({ cls := "StableHeapModel", name := "make", desc := "(II)I" } : Jvm.MethodName) ∈ TB := tb_m11 (List.mem_of_getElem? (i := 23) rfl)
theorem mb_574 : Jvm.Cond.instanceMethod ({ cls := "StableHeapModel", name := "make", desc := "(II)I" } : Jvm.MethodName) ∈ TB := tb_m11 (List.mem_of_getElem? (i := 24) rfl)
theorem mb_575 : Jvm.Cond.selects "StableHeapModel" ({ cls := "StableHeapModel", name := "make", desc := "(II)I" } : Jvm.MethodName) ({ cls := "StableHeapModel", name := "make", desc := "(II)I" } : Jvm.MethodName) ∈ TB := tb_m11 (List.mem_of_getElem? (i := 25) rfl)
theorem mb_576 : Jvm.Cond.code ({ cls := "StableHeapModel", name := "make", desc := "(II)I" } : Jvm.MethodName) prog_6_method_10_code (6 : Nat) (Option.some Jvm.ClassFile.FieldType.int) ∈ TB := tb_m11 (List.mem_of_getElem? (i := 26) rfl)
theorem mb_577 : Jvm.Cond.methodLink "StableHeapModel" (74 : Nat) ({ cls := "StableHeapModel", name := "place", desc := "(I)I" } : Jvm.MethodName) ∈ TB := tb_m11 (List.mem_of_getElem? (i := 27) rfl)
theorem mb_578 : Jvm.Cond.instanceMethod ({ cls := "StableHeapModel", name := "place", desc := "(I)I" } : Jvm.MethodName) ∈ TB := tb_m11 (List.mem_of_getElem? (i := 28) rfl)
theorem mb_579 : Jvm.Cond.code ({ cls := "StableHeapModel", name := "place", desc := "(I)I" } : Jvm.MethodName) prog_6_method_5_code (3 : Nat) (Option.some Jvm.ClassFile.FieldType.int) ∈ TB := tb_m11 (List.mem_of_getElem? (i := 29) rfl)
theorem mb_580 : Jvm.Cond.methodLink "StableHeapModel" (77 : Nat) ({ cls := "StableHeapModel", name := "out", desc := "(II)Z" } : Jvm.MethodName) ∈ TB := tb_m11 (List.mem_of_getElem? (i := 30) rfl)
theorem mb_581 : Jvm.Cond.static ({ cls := "StableHeapModel", name := "out", desc := "(II)Z" } : Jvm.MethodName) ∈ TB := tb_m11 (List.mem_of_getElem? (i := 31) rfl)
theorem mb_582 : Jvm.Cond.code ({ cls := "StableHeapModel", name := "out", desc := "(II)Z" } : Jvm.MethodName) prog_6_method_4_code (2 : Nat) (Option.some Jvm.ClassFile.FieldType.boolean) ∈ TB := tb_m11 (List.mem_of_getElem? (i := 32) rfl)
theorem mb_583 : Jvm.Cond.methodLink "StableHeapLaw" (85 : Nat) ({ cls := "StableHeapModel", name := "setInt", desc := "(IIII)I" } : Jvm.MethodName) ∈ TB := tb_m11 (List.mem_of_getElem? (i := 33) rfl)
theorem mb_584 : Jvm.Cond.instanceMethod ({ cls := "StableHeapModel", name := "setInt", desc := "(IIII)I" } : Jvm.MethodName) ∈ TB := tb_m11 (List.mem_of_getElem? (i := 34) rfl)
theorem mb_585 : Jvm.Cond.selects "StableHeapModel" ({ cls := "StableHeapModel", name := "setInt", desc := "(IIII)I" } : Jvm.MethodName) ({ cls := "StableHeapModel", name := "setInt", desc := "(IIII)I" } : Jvm.MethodName) ∈ TB := tb_m11 (List.mem_of_getElem? (i := 35) rfl)
theorem mb_586 : Jvm.Cond.code ({ cls := "StableHeapModel", name := "setInt", desc := "(IIII)I" } : Jvm.MethodName) prog_6_method_17_code (6 : Nat) (Option.some Jvm.ClassFile.FieldType.int) ∈ TB := tb_m11 (List.mem_of_getElem? (i := 36) rfl)
theorem mb_587 : Jvm.Cond.methodLink "StableHeapModel" (104 : Nat) ({ cls := "StableHeapModel", name := "cell", desc := "(III)I" } : Jvm.MethodName) ∈ TB := tb_m11 (List.mem_of_getElem? (i := 37) rfl)
theorem mb_588 : Jvm.Cond.instanceMethod ({ cls := "StableHeapModel", name := "cell", desc := "(III)I" } : Jvm.MethodName) ∈ TB := tb_m11 (List.mem_of_getElem? (i := 38) rfl)
theorem mb_589 : Jvm.Cond.code ({ cls := "StableHeapModel", name := "cell", desc := "(III)I" } : Jvm.MethodName) prog_6_method_11_code (5 : Nat) (Option.some Jvm.ClassFile.FieldType.int) ∈ TB := tb_m11 (List.mem_of_getElem? (i := 39) rfl)
theorem mb_590 : Jvm.Cond.methodLink "StableHeapModel" (87 : Nat) ({ cls := "StableHeapModel", name := "row", desc := "(I)I" } : Jvm.MethodName) ∈ TB := tb_m11 (List.mem_of_getElem? (i := 40) rfl)
theorem mb_591 : Jvm.Cond.instanceMethod ({ cls := "StableHeapModel", name := "row", desc := "(I)I" } : Jvm.MethodName) ∈ TB := tb_m11 (List.mem_of_getElem? (i := 41) rfl)
theorem mb_592 : Jvm.Cond.code ({ cls := "StableHeapModel", name := "row", desc := "(I)I" } : Jvm.MethodName) prog_6_method_6_code (3 : Nat) (Option.some Jvm.ClassFile.FieldType.int) ∈ TB := tb_m11 (List.mem_of_getElem? (i := 42) rfl)
theorem mb_593 : Jvm.Cond.methodLink "StableHeapModel" (108 : Nat) ({ cls := "StableHeapModel", name := "set", desc := "(IIZI)I" } : Jvm.MethodName) ∈ TB := tb_m11 (List.mem_of_getElem? (i := 43) rfl)
theorem mb_594 : Jvm.Cond.instanceMethod ({ cls := "StableHeapModel", name := "set", desc := "(IIZI)I" } : Jvm.MethodName) ∈ TB := tb_m11 (List.mem_of_getElem? (i := 44) rfl)
theorem mb_595 : Jvm.Cond.code ({ cls := "StableHeapModel", name := "set", desc := "(IIZI)I" } : Jvm.MethodName) prog_6_method_16_code (5 : Nat) (Option.some Jvm.ClassFile.FieldType.int) ∈ TB := tb_m11 (List.mem_of_getElem? (i := 45) rfl)
theorem mb_596 : Jvm.Cond.methodLink "StableHeapModel" (93 : Nat) ({ cls := "StableHeapModel", name := "replaced", desc := "(II)Z" } : Jvm.MethodName) ∈ TB := tb_m11 (List.mem_of_getElem? (i := 46) rfl)
theorem mb_597 : Jvm.Cond.instanceMethod ({ cls := "StableHeapModel", name := "replaced", desc := "(II)Z" } : Jvm.MethodName) ∈ TB := tb_m11 (List.mem_of_getElem? (i := 47) rfl)
theorem mb_598 : Jvm.Cond.code ({ cls := "StableHeapModel", name := "replaced", desc := "(II)Z" } : Jvm.MethodName) prog_6_method_14_code (4 : Nat) (Option.some Jvm.ClassFile.FieldType.boolean) ∈ TB := tb_m11 (List.mem_of_getElem? (i := 48) rfl)
theorem mb_599 : Jvm.Cond.methodLink "StableHeapModel" (96 : Nat) ({ cls := "StableHeapModel", name := "lockCell", desc := "(II)V" } : Jvm.MethodName) ∈ TB := tb_m11 (List.mem_of_getElem? (i := 49) rfl)
theorem mb_600 : Jvm.Cond.instanceMethod ({ cls := "StableHeapModel", name := "lockCell", desc := "(II)V" } : Jvm.MethodName) ∈ TB := tb_m12 (List.mem_of_getElem? (i := 0) rfl)
theorem mb_601 : Jvm.Cond.code ({ cls := "StableHeapModel", name := "lockCell", desc := "(II)V" } : Jvm.MethodName) prog_6_method_13_code (3 : Nat) (Option.none : Option Jvm.ClassFile.FieldType) ∈ TB := tb_m12 (List.mem_of_getElem? (i := 1) rfl)
theorem mb_602 : Jvm.Cond.methodLink "StableHeapModel" (100 : Nat) ({ cls := "StableHeapModel", name := "assign", desc := "(IZI)V" } : Jvm.MethodName) ∈ TB := tb_m12 (List.mem_of_getElem? (i := 2) rfl)
theorem mb_603 : Jvm.Cond.instanceMethod ({ cls := "StableHeapModel", name := "assign", desc := "(IZI)V" } : Jvm.MethodName) ∈ TB := tb_m12 (List.mem_of_getElem? (i := 3) rfl)
theorem mb_604 : Jvm.Cond.code ({ cls := "StableHeapModel", name := "assign", desc := "(IZI)V" } : Jvm.MethodName) prog_6_method_15_code (4 : Nat) (Option.none : Option Jvm.ClassFile.FieldType) ∈ TB := tb_m12 (List.mem_of_getElem? (i := 4) rfl)
theorem mb_605 : Jvm.Cond.methodLink "StableHeapLaw" (88 : Nat) ({ cls := "StableHeapModel", name := "setReference", desc := "(IIII)I" } : Jvm.MethodName) ∈ TB := tb_m12 (List.mem_of_getElem? (i := 5) rfl)
theorem mb_606 : Jvm.Cond.instanceMethod ({ cls := "StableHeapModel", name := "setReference", desc := "(IIII)I" } : Jvm.MethodName) ∈ TB := tb_m12 (List.mem_of_getElem? (i := 6) rfl)
theorem mb_607 : Jvm.Cond.selects "StableHeapModel" ({ cls := "StableHeapModel", name := "setReference", desc := "(IIII)I" } : Jvm.MethodName) ({ cls := "StableHeapModel", name := "setReference", desc := "(IIII)I" } : Jvm.MethodName) ∈ TB := tb_m12 (List.mem_of_getElem? (i := 7) rfl)
theorem mb_608 : Jvm.Cond.code ({ cls := "StableHeapModel", name := "setReference", desc := "(IIII)I" } : Jvm.MethodName) prog_6_method_19_code (5 : Nat) (Option.some Jvm.ClassFile.FieldType.int) ∈ TB := tb_m12 (List.mem_of_getElem? (i := 8) rfl)
theorem mb_609 : Jvm.Cond.methodLink "StableHeapModel" (112 : Nat) ({ cls := "StableHeapModel", name := "refer", desc := "(III)I" } : Jvm.MethodName) ∈ TB := tb_m12 (List.mem_of_getElem? (i := 9) rfl)
theorem mb_610 : Jvm.Cond.instanceMethod ({ cls := "StableHeapModel", name := "refer", desc := "(III)I" } : Jvm.MethodName) ∈ TB := tb_m12 (List.mem_of_getElem? (i := 10) rfl)
theorem mb_611 : Jvm.Cond.code ({ cls := "StableHeapModel", name := "refer", desc := "(III)I" } : Jvm.MethodName) prog_6_method_18_code (4 : Nat) (Option.some Jvm.ClassFile.FieldType.int) ∈ TB := tb_m12 (List.mem_of_getElem? (i := 11) rfl)
theorem mb_612 : Jvm.Cond.methodLink "StableHeapLaw" (92 : Nat) ({ cls := "StableHeapModel", name := "setRoot", desc := "(III)I" } : Jvm.MethodName) ∈ TB := tb_m12 (List.mem_of_getElem? (i := 12) rfl)
theorem mb_613 : Jvm.Cond.instanceMethod ({ cls := "StableHeapModel", name := "setRoot", desc := "(III)I" } : Jvm.MethodName) ∈ TB := tb_m12 (List.mem_of_getElem? (i := 13) rfl)
theorem mb_614 : Jvm.Cond.selects "StableHeapModel" ({ cls := "StableHeapModel", name := "setRoot", desc := "(III)I" } : Jvm.MethodName) ({ cls := "StableHeapModel", name := "setRoot", desc := "(III)I" } : Jvm.MethodName) ∈ TB := tb_m12 (List.mem_of_getElem? (i := 14) rfl)
theorem mb_615 : Jvm.Cond.code ({ cls := "StableHeapModel", name := "setRoot", desc := "(III)I" } : Jvm.MethodName) prog_6_method_20_code (4 : Nat) (Option.some Jvm.ClassFile.FieldType.int) ∈ TB := tb_m12 (List.mem_of_getElem? (i := 15) rfl)
theorem mb_616 : Jvm.Cond.methodLink "StableHeapModel" (115 : Nat) ({ cls := "StableHeapModel", name := "rootCell", desc := "(II)I" } : Jvm.MethodName) ∈ TB := tb_m12 (List.mem_of_getElem? (i := 16) rfl)
theorem mb_617 : Jvm.Cond.instanceMethod ({ cls := "StableHeapModel", name := "rootCell", desc := "(II)I" } : Jvm.MethodName) ∈ TB := tb_m12 (List.mem_of_getElem? (i := 17) rfl)
theorem mb_618 : Jvm.Cond.code ({ cls := "StableHeapModel", name := "rootCell", desc := "(II)I" } : Jvm.MethodName) prog_6_method_12_code (3 : Nat) (Option.some Jvm.ClassFile.FieldType.int) ∈ TB := tb_m12 (List.mem_of_getElem? (i := 18) rfl)
theorem mb_619 : Jvm.Cond.methodLink "StableHeapLaw" (95 : Nat) ({ cls := "StableHeapModel", name := "getInt", desc := "(III)I" } : Jvm.MethodName) ∈ TB := tb_m12 (List.mem_of_getElem? (i := 19) rfl)
theorem mb_620 : Jvm.Cond.instanceMethod ({ cls := "StableHeapModel", name := "getInt", desc := "(III)I" } : Jvm.MethodName) ∈ TB := tb_m12 (List.mem_of_getElem? (i := 20) rfl)
theorem mb_621 : Jvm.Cond.selects "StableHeapModel" ({ cls := "StableHeapModel", name := "getInt", desc := "(III)I" } : Jvm.MethodName) ({ cls := "StableHeapModel", name := "getInt", desc := "(III)I" } : Jvm.MethodName) ∈ TB := tb_m12 (List.mem_of_getElem? (i := 21) rfl)
theorem mb_622 : Jvm.Cond.code ({ cls := "StableHeapModel", name := "getInt", desc := "(III)I" } : Jvm.MethodName) prog_6_method_22_code (4 : Nat) (Option.some Jvm.ClassFile.FieldType.int) ∈ TB := tb_m12 (List.mem_of_getElem? (i := 22) rfl)
theorem mb_623 : Jvm.Cond.methodLink "StableHeapModel" (119 : Nat) ({ cls := "StableHeapModel", name := "get", desc := "(IIIZ)I" } : Jvm.MethodName) ∈ TB := tb_m12 (List.mem_of_getElem? (i := 23) rfl)
theorem mb_624 : Jvm.Cond.instanceMethod ({ cls := "StableHeapModel", name := "get", desc := "(IIIZ)I" } : Jvm.MethodName) ∈ TB := tb_m12 (List.mem_of_getElem? (i := 24) rfl)
theorem mb_625 : Jvm.Cond.code ({ cls := "StableHeapModel", name := "get", desc := "(IIIZ)I" } : Jvm.MethodName) prog_6_method_21_code (6 : Nat) (Option.some Jvm.ClassFile.FieldType.int) ∈ TB := tb_m12 (List.mem_of_getElem? (i := 25) rfl)
theorem mb_626 : Jvm.Cond.methodLink "StableHeapLaw" (98 : Nat) ({ cls := "StableHeapModel", name := "getReference", desc := "(III)I" } : Jvm.MethodName) ∈ TB := tb_m12 (List.mem_of_getElem? (i := 26) rfl)
theorem mb_627 : Jvm.Cond.instanceMethod ({ cls := "StableHeapModel", name := "getReference", desc := "(III)I" } : Jvm.MethodName) ∈ TB := tb_m12 (List.mem_of_getElem? (i := 27) rfl)
theorem mb_628 : Jvm.Cond.selects "StableHeapModel" ({ cls := "StableHeapModel", name := "getReference", desc := "(III)I" } : Jvm.MethodName) ({ cls := "StableHeapModel", name := "getReference", desc := "(III)I" } : Jvm.MethodName) ∈ TB := tb_m12 (List.mem_of_getElem? (i := 28) rfl)
theorem mb_629 : Jvm.Cond.code ({ cls := "StableHeapModel", name := "getReference", desc := "(III)I" } : Jvm.MethodName) prog_6_method_23_code (4 : Nat) (Option.some Jvm.ClassFile.FieldType.int) ∈ TB := tb_m12 (List.mem_of_getElem? (i := 29) rfl)
theorem mb_630 : Jvm.Cond.methodLink "StableHeapLaw" (101 : Nat) ({ cls := "StableHeapModel", name := "getRoot", desc := "(II)I" } : Jvm.MethodName) ∈ TB := tb_m12 (List.mem_of_getElem? (i := 30) rfl)
theorem mb_631 : Jvm.Cond.instanceMethod ({ cls := "StableHeapModel", name := "getRoot", desc := "(II)I" } : Jvm.MethodName) ∈ TB := tb_m12 (List.mem_of_getElem? (i := 31) rfl)
theorem mb_632 : Jvm.Cond.selects "StableHeapModel" ({ cls := "StableHeapModel", name := "getRoot", desc := "(II)I" } : Jvm.MethodName) ({ cls := "StableHeapModel", name := "getRoot", desc := "(II)I" } : Jvm.MethodName) ∈ TB := tb_m12 (List.mem_of_getElem? (i := 32) rfl)
theorem mb_633 : Jvm.Cond.code ({ cls := "StableHeapModel", name := "getRoot", desc := "(II)I" } : Jvm.MethodName) prog_6_method_24_code (4 : Nat) (Option.some Jvm.ClassFile.FieldType.int) ∈ TB := tb_m12 (List.mem_of_getElem? (i := 33) rfl)
theorem mb_634 : Jvm.Cond.methodLink "StableHeapLaw" (105 : Nat) ({ cls := "StableHeapModel", name := "commit", desc := "(I)I" } : Jvm.MethodName) ∈ TB := tb_m12 (List.mem_of_getElem? (i := 34) rfl)
theorem mb_635 : Jvm.Cond.instanceMethod ({ cls := "StableHeapModel", name := "commit", desc := "(I)I" } : Jvm.MethodName) ∈ TB := tb_m12 (List.mem_of_getElem? (i := 35) rfl)
theorem mb_636 : Jvm.Cond.selects "StableHeapModel" ({ cls := "StableHeapModel", name := "commit", desc := "(I)I" } : Jvm.MethodName) ({ cls := "StableHeapModel", name := "commit", desc := "(I)I" } : Jvm.MethodName) ∈ TB := tb_m12 (List.mem_of_getElem? (i := 36) rfl)
theorem mb_637 : Jvm.Cond.code ({ cls := "StableHeapModel", name := "commit", desc := "(I)I" } : Jvm.MethodName) prog_6_method_28_code (3 : Nat) (Option.some Jvm.ClassFile.FieldType.int) ∈ TB := tb_m12 (List.mem_of_getElem? (i := 37) rfl)
theorem mb_638 : Jvm.Cond.methodLink "StableHeapModel" (130 : Nat) ({ cls := "StableHeapModel", name := "end", desc := "(IZ)I" } : Jvm.MethodName) ∈ TB := tb_m12 (List.mem_of_getElem? (i := 38) rfl)
theorem mb_639 : Jvm.Cond.instanceMethod ({ cls := "StableHeapModel", name := "end", desc := "(IZ)I" } : Jvm.MethodName) ∈ TB := tb_m12 (List.mem_of_getElem? (i := 39) rfl)
theorem mb_640 : Jvm.Cond.code ({ cls := "StableHeapModel", name := "end", desc := "(IZ)I" } : Jvm.MethodName) prog_6_method_27_code (4 : Nat) (Option.some Jvm.ClassFile.FieldType.int) ∈ TB := tb_m12 (List.mem_of_getElem? (i := 40) rfl)
theorem mb_641 : Jvm.Cond.methodLink "StableHeapModel" (123 : Nat) ({ cls := "StableHeapModel", name := "forget", desc := "(IZ)V" } : Jvm.MethodName) ∈ TB := tb_m12 (List.mem_of_getElem? (i := 41) rfl)
theorem mb_642 : Jvm.Cond.instanceMethod ({ cls := "StableHeapModel", name := "forget", desc := "(IZ)V" } : Jvm.MethodName) ∈ TB := tb_m12 (List.mem_of_getElem? (i := 42) rfl)
theorem mb_643 : Jvm.Cond.code ({ cls := "StableHeapModel", name := "forget", desc := "(IZ)V" } : Jvm.MethodName) prog_6_method_26_code (5 : Nat) (Option.none : Option Jvm.ClassFile.FieldType) ∈ TB := tb_m12 (List.mem_of_getElem? (i := 43) rfl)
theorem mb_644 : Jvm.Cond.methodLink "StableHeapModel" (127 : Nat) ({ cls := "StableHeapModel", name := "unlock", desc := "(I)I" } : Jvm.MethodName) ∈ TB := tb_m12 (List.mem_of_getElem? (i := 44) rfl)
theorem mb_645 : Jvm.Cond.instanceMethod ({ cls := "StableHeapModel", name := "unlock", desc := "(I)I" } : Jvm.MethodName) ∈ TB := tb_m12 (List.mem_of_getElem? (i := 45) rfl)
theorem mb_646 : Jvm.Cond.code ({ cls := "StableHeapModel", name := "unlock", desc := "(I)I" } : Jvm.MethodName) prog_6_method_25_code (4 : Nat) (Option.some Jvm.ClassFile.FieldType.int) ∈ TB := tb_m12 (List.mem_of_getElem? (i := 46) rfl)
theorem mb_647 : Jvm.Cond.methodLink "StableHeapLaw" (108 : Nat) ({ cls := "StableHeapModel", name := "abort", desc := "(I)I" } : Jvm.MethodName) ∈ TB := tb_m12 (List.mem_of_getElem? (i := 47) rfl)
theorem mb_648 : Jvm.Cond.instanceMethod ({ cls := "StableHeapModel", name := "abort", desc := "(I)I" } : Jvm.MethodName) ∈ TB := tb_m12 (List.mem_of_getElem? (i := 48) rfl)
theorem mb_649 : Jvm.Cond.selects "StableHeapModel" ({ cls := "StableHeapModel", name := "abort", desc := "(I)I" } : Jvm.MethodName) ({ cls := "StableHeapModel", name := "abort", desc := "(I)I" } : Jvm.MethodName) ∈ TB := tb_m12 (List.mem_of_getElem? (i := 49) rfl)
theorem mb_650 : Jvm.Cond.code ({ cls := "StableHeapModel", name := "abort", desc := "(I)I" } : Jvm.MethodName) prog_6_method_29_code (3 : Nat) (Option.some Jvm.ClassFile.FieldType.int) ∈ TB := tb_m13 (List.mem_of_getElem? (i := 0) rfl)
theorem mb_651 : Jvm.Cond.methodLink "StableHeapLaw" (112 : Nat) ({ cls := "StableHeapModel", name := "checkpoint", desc := "()I" } : Jvm.MethodName) ∈ TB := tb_m13 (List.mem_of_getElem? (i := 1) rfl)
theorem mb_652 : Jvm.Cond.instanceMethod ({ cls := "StableHeapModel", name := "checkpoint", desc := "()I" } : Jvm.MethodName) ∈ TB := tb_m13 (List.mem_of_getElem? (i := 2) rfl)
theorem mb_653 : Jvm.Cond.selects "StableHeapModel" ({ cls := "StableHeapModel", name := "checkpoint", desc := "()I" } : Jvm.MethodName) ({ cls := "StableHeapModel", name := "checkpoint", desc := "()I" } : Jvm.MethodName) ∈ TB := tb_m13 (List.mem_of_getElem? (i := 3) rfl)
theorem mb_654 : Jvm.Cond.code ({ cls := "StableHeapModel", name := "checkpoint", desc := "()I" } : Jvm.MethodName) prog_6_method_30_code (1 : Nat) (Option.some Jvm.ClassFile.FieldType.int) ∈ TB := tb_m13 (List.mem_of_getElem? (i := 4) rfl)
theorem mb_655 : Jvm.Cond.methodLink "StableHeapLaw" (116 : Nat) ({ cls := "StableHeapModel", name := "crash", desc := "()I" } : Jvm.MethodName) ∈ TB := tb_m13 (List.mem_of_getElem? (i := 5) rfl)
theorem mb_656 : Jvm.Cond.instanceMethod ({ cls := "StableHeapModel", name := "crash", desc := "()I" } : Jvm.MethodName) ∈ TB := tb_m13 (List.mem_of_getElem? (i := 6) rfl)
theorem mb_657 : Jvm.Cond.selects "StableHeapModel" ({ cls := "StableHeapModel", name := "crash", desc := "()I" } : Jvm.MethodName) ({ cls := "StableHeapModel", name := "crash", desc := "()I" } : Jvm.MethodName) ∈ TB := tb_m13 (List.mem_of_getElem? (i := 7) rfl)
theorem mb_658 : Jvm.Cond.code ({ cls := "StableHeapModel", name := "crash", desc := "()I" } : Jvm.MethodName) prog_6_method_31_code (4 : Nat) (Option.some Jvm.ClassFile.FieldType.int) ∈ TB := tb_m13 (List.mem_of_getElem? (i := 8) rfl)
theorem mb_659 : Jvm.Cond.methodLink "StableHeapLaw" (120 : Nat) ({ cls := "StableHeapModel", name := "collect", desc := "(I)I" } : Jvm.MethodName) ∈ TB := tb_m13 (List.mem_of_getElem? (i := 9) rfl)
theorem mb_660 : Jvm.Cond.instanceMethod ({ cls := "StableHeapModel", name := "collect", desc := "(I)I" } : Jvm.MethodName) ∈ TB := tb_m13 (List.mem_of_getElem? (i := 10) rfl)
theorem mb_661 : Jvm.Cond.selects "StableHeapModel" ({ cls := "StableHeapModel", name := "collect", desc := "(I)I" } : Jvm.MethodName) ({ cls := "StableHeapModel", name := "collect", desc := "(I)I" } : Jvm.MethodName) ∈ TB := tb_m13 (List.mem_of_getElem? (i := 11) rfl)
theorem mb_662 : Jvm.Cond.code ({ cls := "StableHeapModel", name := "collect", desc := "(I)I" } : Jvm.MethodName) prog_6_method_34_code (5 : Nat) (Option.some Jvm.ClassFile.FieldType.int) ∈ TB := tb_m13 (List.mem_of_getElem? (i := 12) rfl)
theorem mb_663 : Jvm.Cond.methodLink "StableHeapModel" (138 : Nat) ({ cls := "StableHeapModel", name := "markHeld", desc := "()I" } : Jvm.MethodName) ∈ TB := tb_m13 (List.mem_of_getElem? (i := 13) rfl)
theorem mb_664 : Jvm.Cond.instanceMethod ({ cls := "StableHeapModel", name := "markHeld", desc := "()I" } : Jvm.MethodName) ∈ TB := tb_m13 (List.mem_of_getElem? (i := 14) rfl)
theorem mb_665 : Jvm.Cond.code ({ cls := "StableHeapModel", name := "markHeld", desc := "()I" } : Jvm.MethodName) prog_6_method_33_code (4 : Nat) (Option.some Jvm.ClassFile.FieldType.int) ∈ TB := tb_m13 (List.mem_of_getElem? (i := 15) rfl)
theorem mb_666 : Jvm.Cond.methodLink "StableHeapModel" (134 : Nat) ({ cls := "StableHeapModel", name := "hold", desc := "(I)V" } : Jvm.MethodName) ∈ TB := tb_m13 (List.mem_of_getElem? (i := 16) rfl)
theorem mb_667 : Jvm.Cond.instanceMethod ({ cls := "StableHeapModel", name := "hold", desc := "(I)V" } : Jvm.MethodName) ∈ TB := tb_m13 (List.mem_of_getElem? (i := 17) rfl)
theorem mb_668 : Jvm.Cond.code ({ cls := "StableHeapModel", name := "hold", desc := "(I)V" } : Jvm.MethodName) prog_6_method_32_code (3 : Nat) (Option.none : Option Jvm.ClassFile.FieldType) ∈ TB := tb_m13 (List.mem_of_getElem? (i := 18) rfl)
theorem mb_669 : Jvm.Cond.methodLink "StableHeapModel" (141 : Nat) ({ cls := "StableHeapModel", name := "crash", desc := "()I" } : Jvm.MethodName) ∈ TB := tb_m13 (List.mem_of_getElem? (i := 19) rfl)
theorem mb_670 : Jvm.Cond.methodLink "StableHeapLaw" (123 : Nat) ({ cls := "StableHeapModel", name := "fields", desc := "(I)I" } : Jvm.MethodName) ∈ TB := tb_m13 (List.mem_of_getElem? (i := 20) rfl)
theorem mb_671 : Jvm.Cond.instanceMethod ({ cls := "StableHeapModel", name := "fields", desc := "(I)I" } : Jvm.MethodName) ∈ TB := tb_m13 (List.mem_of_getElem? (i := 21) rfl)
theorem mb_672 : Jvm.Cond.selects "StableHeapModel" ({ cls := "StableHeapModel", name := "fields", desc := "(I)I" } : Jvm.MethodName) ({ cls := "StableHeapModel", name := "fields", desc := "(I)I" } : Jvm.MethodName) ∈ TB := tb_m13 (List.mem_of_getElem? (i := 22) rfl)
theorem mb_673 : Jvm.Cond.code ({ cls := "StableHeapModel", name := "fields", desc := "(I)I" } : Jvm.MethodName) prog_6_method_35_code (3 : Nat) (Option.some Jvm.ClassFile.FieldType.int) ∈ TB := tb_m13 (List.mem_of_getElem? (i := 23) rfl)
theorem mb_674 : Jvm.Cond.methodLink "StableHeapLaw" (126 : Nat) ({ cls := "StableHeapModel", name := "lockedBy", desc := "(II)I" } : Jvm.MethodName) ∈ TB := tb_m13 (List.mem_of_getElem? (i := 24) rfl)
theorem mb_675 : Jvm.Cond.instanceMethod ({ cls := "StableHeapModel", name := "lockedBy", desc := "(II)I" } : Jvm.MethodName) ∈ TB := tb_m13 (List.mem_of_getElem? (i := 25) rfl)
theorem mb_676 : Jvm.Cond.selects "StableHeapModel" ({ cls := "StableHeapModel", name := "lockedBy", desc := "(II)I" } : Jvm.MethodName) ({ cls := "StableHeapModel", name := "lockedBy", desc := "(II)I" } : Jvm.MethodName) ∈ TB := tb_m13 (List.mem_of_getElem? (i := 26) rfl)
theorem mb_677 : Jvm.Cond.code ({ cls := "StableHeapModel", name := "lockedBy", desc := "(II)I" } : Jvm.MethodName) prog_6_method_36_code (4 : Nat) (Option.some Jvm.ClassFile.FieldType.int) ∈ TB := tb_m13 (List.mem_of_getElem? (i := 27) rfl)
theorem mb_678 : Jvm.Cond.methodLink "StableHeapLaw" (129 : Nat) ({ cls := "StableHeapModel", name := "count", desc := "(I)I" } : Jvm.MethodName) ∈ TB := tb_m13 (List.mem_of_getElem? (i := 28) rfl)
theorem mb_679 : Jvm.Cond.instanceMethod ({ cls := "StableHeapModel", name := "count", desc := "(I)I" } : Jvm.MethodName) ∈ TB := tb_m13 (List.mem_of_getElem? (i := 29) rfl)
theorem mb_680 : Jvm.Cond.selects "StableHeapModel" ({ cls := "StableHeapModel", name := "count", desc := "(I)I" } : Jvm.MethodName) ({ cls := "StableHeapModel", name := "count", desc := "(I)I" } : Jvm.MethodName) ∈ TB := tb_m13 (List.mem_of_getElem? (i := 30) rfl)
theorem mb_681 : Jvm.Cond.code ({ cls := "StableHeapModel", name := "count", desc := "(I)I" } : Jvm.MethodName) prog_6_method_37_code (4 : Nat) (Option.some Jvm.ClassFile.FieldType.int) ∈ TB := tb_m13 (List.mem_of_getElem? (i := 31) rfl)
theorem mb_682 : Jvm.Cond.arrayClass Jvm.ClassFile.FieldType.long ∈ TB := tb_m13 (List.mem_of_getElem? (i := 32) rfl)
theorem mb_683 : Jvm.Cond.sameMethod "java/lang/Throwable" "java/lang/Throwable" "fillInStackTrace" "(I)Ljava/lang/Throwable;" ∈ TB := tb_m13 (List.mem_of_getElem? (i := 33) rfl)
end
section
/-! classes and methods -/
def RX0 : String := "StableHeap$Lockable"
def TX0 : u_T := fun k => match k with
  | 0 => ("StableHeap$Lockable", "handle", "I", true)
  | 1 => ("StableHeap$Lockable", "places", "[LStableHeap$Place;", true)
  | 2 => ("StableHeap$Lockable", "owner", "I", false)
  | _ => ("StableHeap$Lockable", "isHeld", "Z", false)
def tyX0 : Nat → FieldType := fun k => match k with
  | 0 => .int
  | 1 => .array (.object "StableHeap$Place")
  | 2 => .int
  | _ => .boolean
theorem nm_X0 : ∀ a, a < 4 → ∀ b, b < 4 → a ≠ b → (TX0 a).2.1 ≠ (TX0 b).2.1 := by decide +kernel
theorem ok_X0 : ∀ k, k < 4 → parseFieldDescriptor (TX0 k).2.2.1 = some (tyX0 k) := by decide +kernel
theorem in_X0 : ∀ w ∈ u_ws RX0 TX0 4, w ∈ TB := by
  intro w hw
  obtain ⟨k, hk, rfl⟩ := List.mem_map.mp hw
  have hk := List.mem_range.mp hk
  rcases (show k = 0 ∨ k = 1 ∨ k = 2 ∨ k = 3 by omega) with rfl | rfl | rfl | rfl
  · exact mb_102
  · exact mb_104
  · exact mb_106
  · exact mb_108
def RX1 : String := "StableHeap$Place"
def TX1 : u_T := fun k => match k with
  | 0 => ("StableHeap$Place", "isReference", "Z", false)
  | 1 => ("StableHeap$Place", "number", "I", false)
  | 2 => ("StableHeap$Place", "target", "LStableHeap$Lockable;", false)
  | 3 => ("StableHeap$Place", "isSet", "Z", false)
  | 4 => ("StableHeap$Place", "formerIsReference", "Z", false)
  | 5 => ("StableHeap$Place", "formerNumber", "I", false)
  | _ => ("StableHeap$Place", "formerTarget", "LStableHeap$Lockable;", false)
def tyX1 : Nat → FieldType := fun k => match k with
  | 0 => .boolean
  | 1 => .int
  | 2 => .object "StableHeap$Lockable"
  | 3 => .boolean
  | 4 => .boolean
  | 5 => .int
  | _ => .object "StableHeap$Lockable"
theorem nm_X1 : ∀ a, a < 7 → ∀ b, b < 7 → a ≠ b → (TX1 a).2.1 ≠ (TX1 b).2.1 := by decide +kernel
theorem ok_X1 : ∀ k, k < 7 → parseFieldDescriptor (TX1 k).2.2.1 = some (tyX1 k) := by decide +kernel
theorem in_X1 : ∀ w ∈ u_ws RX1 TX1 7, w ∈ TB := by
  intro w hw
  obtain ⟨k, hk, rfl⟩ := List.mem_map.mp hw
  have hk := List.mem_range.mp hk
  rcases (show k = 0 ∨ k = 1 ∨ k = 2 ∨ k = 3 ∨ k = 4 ∨ k = 5 ∨ k = 6 by omega) with rfl | rfl | rfl | rfl | rfl | rfl | rfl
  · exact mb_80
  · exact mb_82
  · exact mb_84
  · exact mb_86
  · exact mb_88
  · exact mb_90
  · exact mb_92
def RX2 : String := "StableHeap$Transaction"
def TX2 : u_T := fun k => match k with
  | 0 => ("StableHeap$Transaction", "number", "I", false)
  | _ => ("StableHeap$Transaction", "words", "I", false)
def tyX2 : Nat → FieldType := fun k => match k with
  | 0 => .int
  | _ => .int
theorem nm_X2 : ∀ a, a < 2 → ∀ b, b < 2 → a ≠ b → (TX2 a).2.1 ≠ (TX2 b).2.1 := by decide +kernel
theorem ok_X2 : ∀ k, k < 2 → parseFieldDescriptor (TX2 k).2.2.1 = some (tyX2 k) := by decide +kernel
theorem in_X2 : ∀ w ∈ u_ws RX2 TX2 2, w ∈ TB := by
  intro w hw
  obtain ⟨k, hk, rfl⟩ := List.mem_map.mp hw
  have hk := List.mem_range.mp hk
  rcases (show k = 0 ∨ k = 1 by omega) with rfl | rfl
  · exact mb_119
  · exact mb_121
def RX3 : String := "StableHeap"
def TX3 : u_T := fun k => match k with
  | 0 => ("StableHeap", "roots", "[LStableHeap$Lockable;", true)
  | 1 => ("StableHeap", "objects", "[LStableHeap$Lockable;", true)
  | 2 => ("StableHeap", "held", "[LStableHeap$Lockable;", true)
  | 3 => ("StableHeap", "transactions", "[LStableHeap$Transaction;", true)
  | 4 => ("StableHeap", "objectsThere", "I", false)
  | 5 => ("StableHeap", "objectsHeld", "I", false)
  | 6 => ("StableHeap", "handlesGiven", "I", false)
  | 7 => ("StableHeap", "wordsUsed", "I", false)
  | 8 => ("StableHeap", "wordsOfEnded", "I", false)
  | 9 => ("StableHeap", "transactionsBegun", "I", false)
  | _ => ("StableHeap", "flips", "I", false)
def tyX3 : Nat → FieldType := fun k => match k with
  | 0 => .array (.object "StableHeap$Lockable")
  | 1 => .array (.object "StableHeap$Lockable")
  | 2 => .array (.object "StableHeap$Lockable")
  | 3 => .array (.object "StableHeap$Transaction")
  | 4 => .int
  | 5 => .int
  | 6 => .int
  | 7 => .int
  | 8 => .int
  | 9 => .int
  | _ => .int
theorem nm_X3 : ∀ a, a < 11 → ∀ b, b < 11 → a ≠ b → (TX3 a).2.1 ≠ (TX3 b).2.1 := by decide +kernel
theorem ok_X3 : ∀ k, k < 11 → parseFieldDescriptor (TX3 k).2.2.1 = some (tyX3 k) := by decide +kernel
theorem in_X3 : ∀ w ∈ u_ws RX3 TX3 11, w ∈ TB := by
  intro w hw
  obtain ⟨k, hk, rfl⟩ := List.mem_map.mp hw
  have hk := List.mem_range.mp hk
  rcases (show k = 0 ∨ k = 1 ∨ k = 2 ∨ k = 3 ∨ k = 4 ∨ k = 5 ∨ k = 6 ∨ k = 7 ∨ k = 8 ∨ k = 9 ∨ k = 10 by omega) with rfl | rfl | rfl | rfl | rfl | rfl | rfl | rfl | rfl | rfl | rfl
  · exact mb_135
  · exact mb_137
  · exact mb_139
  · exact mb_141
  · exact mb_143
  · exact mb_145
  · exact mb_147
  · exact mb_149
  · exact mb_151
  · exact mb_153
  · exact mb_155
def RX4 : String := "StableHeapModel"
def TX4 : u_T := fun k => match k with
  | 0 => ("StableHeapModel", "code", "I", false)
  | 1 => ("StableHeapModel", "handle", "[I", true)
  | 2 => ("StableHeapModel", "size", "[I", true)
  | 3 => ("StableHeapModel", "lock", "[I", true)
  | 4 => ("StableHeapModel", "refers", "[Z", true)
  | 5 => ("StableHeapModel", "value", "[I", true)
  | 6 => ("StableHeapModel", "held", "[Z", true)
  | 7 => ("StableHeapModel", "root", "[I", true)
  | 8 => ("StableHeapModel", "rootLock", "[I", true)
  | 9 => ("StableHeapModel", "given", "I", false)
  | 10 => ("StableHeapModel", "used", "I", false)
  | 11 => ("StableHeapModel", "active", "[I", true)
  | 12 => ("StableHeapModel", "words", "[I", true)
  | 13 => ("StableHeapModel", "begun", "I", false)
  | 14 => ("StableHeapModel", "settled", "I", false)
  | 15 => ("StableHeapModel", "flips", "I", false)
  | 16 => ("StableHeapModel", "undoBy", "[I", true)
  | 17 => ("StableHeapModel", "undoCell", "[I", true)
  | 18 => ("StableHeapModel", "undoRefers", "[Z", true)
  | 19 => ("StableHeapModel", "undoValue", "[I", true)
  | _ => ("StableHeapModel", "undos", "I", false)
def tyX4 : Nat → FieldType := fun k => match k with
  | 0 => .int
  | 1 => .array .int
  | 2 => .array .int
  | 3 => .array .int
  | 4 => .array .boolean
  | 5 => .array .int
  | 6 => .array .boolean
  | 7 => .array .int
  | 8 => .array .int
  | 9 => .int
  | 10 => .int
  | 11 => .array .int
  | 12 => .array .int
  | 13 => .int
  | 14 => .int
  | 15 => .int
  | 16 => .array .int
  | 17 => .array .int
  | 18 => .array .boolean
  | 19 => .array .int
  | _ => .int
theorem nm_X4 : ∀ a, a < 21 → ∀ b, b < 21 → a ≠ b → (TX4 a).2.1 ≠ (TX4 b).2.1 := by decide +kernel
theorem ok_X4 : ∀ k, k < 21 → parseFieldDescriptor (TX4 k).2.2.1 = some (tyX4 k) := by decide +kernel
theorem in_X4 : ∀ w ∈ u_ws RX4 TX4 21, w ∈ TB := by
  intro w hw
  obtain ⟨k, hk, rfl⟩ := List.mem_map.mp hw
  have hk := List.mem_range.mp hk
  rcases (show k = 0 ∨ k = 1 ∨ k = 2 ∨ k = 3 ∨ k = 4 ∨ k = 5 ∨ k = 6 ∨ k = 7 ∨ k = 8 ∨ k = 9 ∨ k = 10 ∨ k = 11 ∨ k = 12 ∨ k = 13 ∨ k = 14 ∨ k = 15 ∨ k = 16 ∨ k = 17 ∨ k = 18 ∨ k = 19 ∨ k = 20 by omega) with rfl | rfl | rfl | rfl | rfl | rfl | rfl | rfl | rfl | rfl | rfl | rfl | rfl | rfl | rfl | rfl | rfl | rfl | rfl | rfl | rfl
  · exact mb_511
  · exact mb_513
  · exact mb_515
  · exact mb_517
  · exact mb_519
  · exact mb_521
  · exact mb_523
  · exact mb_525
  · exact mb_527
  · exact mb_529
  · exact mb_531
  · exact mb_533
  · exact mb_535
  · exact mb_537
  · exact mb_539
  · exact mb_541
  · exact mb_543
  · exact mb_545
  · exact mb_547
  · exact mb_549
  · exact mb_551
def RL : String := "StableHeapLaw"
abbrev vwC5 : List vw_C := [(RX0, TX0, 4), (RX1, TX1, 7), (RX2, TX2, 2), (RX3, TX3, 11), (RX4, TX4, 21)]
abbrev th_tys (cs : Nat → ClassId) : List (ClassId × FieldType) := [(cs 0, .object "StableHeap$Lockable"), (cs 1, .object "StableHeap$Transaction"), (cs 2, .object "StableHeap$Place"), (cs 3, .int), (cs 4, .boolean), (cs 5, .long)]
def th_sx : List (String × Nat × String) := [("StableHeap", 175, "3 transactions are active"), ("StableHeap", 202, "there is no room in the log"), ("StableHeap", 177, "the transaction is not active"), ("StableHeap", 52, "an object has 0 to 4 fields"), ("StableHeap", 65, "there is no space"), ("StableHeap", 182, "there is no object with the handle"), ("StableHeap", 189, "there is no such field"), ("StableHeap", 192, "another transaction has it locked"), ("StableHeap", 194, "there is no object to refer to"), ("StableHeap", 164, "there is no such root"), ("StableHeap", 117, "the field is a reference"), ("StableHeap", 121, "the field is an int"), ("StableHeap", 173, "there is no such count")]
def th_nw : List Cond := [(Jvm.Cond.arrayOver (Jvm.ClassFile.FieldType.object "StableHeap$Lockable")), (Jvm.Cond.arrayOver (Jvm.ClassFile.FieldType.object "StableHeap$Place")), (Jvm.Cond.methodLinkNest "StableHeap$Lockable" (19 : Nat) ({ cls := "StableHeap$Place", name := "<init>", desc := "()V" } : Jvm.MethodName) "StableHeap"), (Jvm.Cond.arrayOver (Jvm.ClassFile.FieldType.object "StableHeap$Transaction")), (Jvm.Cond.methodLinkNest "StableHeap" (30 : Nat) ({ cls := "StableHeap$Transaction", name := "<init>", desc := "()V" } : Jvm.MethodName) "StableHeap"), (Jvm.Cond.castable "java/lang/IllegalStateException" "java/lang/IllegalStateException"), (Jvm.Cond.declares ({ cls := "java/lang/RuntimeException", name := "<init>", desc := "()V" } : Jvm.MethodName)), (Jvm.Cond.declares ({ cls := "java/lang/RuntimeException", name := "<init>", desc := "(Ljava/lang/String;)V" } : Jvm.MethodName)), (Jvm.Cond.declares ({ cls := "java/lang/Exception", name := "<init>", desc := "()V" } : Jvm.MethodName)), (Jvm.Cond.declares ({ cls := "java/lang/Exception", name := "<init>", desc := "(Ljava/lang/String;)V" } : Jvm.MethodName)), (Jvm.Cond.declares ({ cls := "java/lang/Throwable", name := "<init>", desc := "()V" } : Jvm.MethodName)), (Jvm.Cond.declares ({ cls := "java/lang/Throwable", name := "<init>", desc := "(Ljava/lang/String;)V" } : Jvm.MethodName)), (Jvm.Cond.castable "java/lang/UnsupportedOperationException" "java/lang/UnsupportedOperationException"), (Jvm.Cond.castable "java/util/NoSuchElementException" "java/util/NoSuchElementException"), (Jvm.Cond.castable "java/lang/IllegalArgumentException" "java/lang/IllegalArgumentException"), (Jvm.Cond.castable "java/lang/IndexOutOfBoundsException" "java/lang/IndexOutOfBoundsException"), (Jvm.Cond.castable "java/lang/ArithmeticException" "java/lang/ArithmeticException")]
theorem sx_175 : ("StableHeap", 175, "3 transactions are active") ∈ th_sx := List.mem_of_getElem? (i := 0) rfl
theorem sx_202 : ("StableHeap", 202, "there is no room in the log") ∈ th_sx := List.mem_of_getElem? (i := 1) rfl
theorem sx_177 : ("StableHeap", 177, "the transaction is not active") ∈ th_sx := List.mem_of_getElem? (i := 2) rfl
theorem sx_52 : ("StableHeap", 52, "an object has 0 to 4 fields") ∈ th_sx := List.mem_of_getElem? (i := 3) rfl
theorem sx_65 : ("StableHeap", 65, "there is no space") ∈ th_sx := List.mem_of_getElem? (i := 4) rfl
theorem sx_182 : ("StableHeap", 182, "there is no object with the handle") ∈ th_sx := List.mem_of_getElem? (i := 5) rfl
theorem sx_189 : ("StableHeap", 189, "there is no such field") ∈ th_sx := List.mem_of_getElem? (i := 6) rfl
theorem sx_192 : ("StableHeap", 192, "another transaction has it locked") ∈ th_sx := List.mem_of_getElem? (i := 7) rfl
theorem sx_194 : ("StableHeap", 194, "there is no object to refer to") ∈ th_sx := List.mem_of_getElem? (i := 8) rfl
theorem sx_164 : ("StableHeap", 164, "there is no such root") ∈ th_sx := List.mem_of_getElem? (i := 9) rfl
theorem sx_117 : ("StableHeap", 117, "the field is a reference") ∈ th_sx := List.mem_of_getElem? (i := 10) rfl
theorem sx_121 : ("StableHeap", 121, "the field is an int") ∈ th_sx := List.mem_of_getElem? (i := 11) rfl
theorem sx_173 : ("StableHeap", 173, "there is no such count") ∈ th_sx := List.mem_of_getElem? (i := 12) rfl
theorem nw_w0 : Jvm.Cond.arrayOver (Jvm.ClassFile.FieldType.object "StableHeap$Lockable") ∈ th_nw := List.mem_of_getElem? (i := 0) rfl
theorem nw_w1 : Jvm.Cond.arrayOver (Jvm.ClassFile.FieldType.object "StableHeap$Place") ∈ th_nw := List.mem_of_getElem? (i := 1) rfl
theorem nw_w2 : Jvm.Cond.methodLinkNest "StableHeap$Lockable" (19 : Nat) ({ cls := "StableHeap$Place", name := "<init>", desc := "()V" } : Jvm.MethodName) "StableHeap" ∈ th_nw := List.mem_of_getElem? (i := 2) rfl
theorem nw_w3 : Jvm.Cond.arrayOver (Jvm.ClassFile.FieldType.object "StableHeap$Transaction") ∈ th_nw := List.mem_of_getElem? (i := 3) rfl
theorem nw_w4 : Jvm.Cond.methodLinkNest "StableHeap" (30 : Nat) ({ cls := "StableHeap$Transaction", name := "<init>", desc := "()V" } : Jvm.MethodName) "StableHeap" ∈ th_nw := List.mem_of_getElem? (i := 4) rfl
abbrev cX3_init : ByteArray := prog_1_method_1_code
def yX3_init : MethodName := ⟨RX3, "<init>", "()V"⟩
abbrev wsX3_init : List Cond := .code yX3_init cX3_init 2 none :: TB
abbrev cX3_begin : ByteArray := prog_1_method_2_code
def yX3_begin : MethodName := ⟨RX3, "begin", "()I"⟩
abbrev wsX3_begin : List Cond := .code yX3_begin cX3_begin 2 (some .int) :: TB
abbrev cX3_make : ByteArray := prog_1_method_3_code
def yX3_make : MethodName := ⟨RX3, "make", "(II)I"⟩
abbrev wsX3_make : List Cond := .code yX3_make cX3_make 5 (some .int) :: TB
abbrev cX3_setInt : ByteArray := prog_1_method_4_code
def yX3_setInt : MethodName := ⟨RX3, "setInt", "(IIII)I"⟩
abbrev wsX3_setInt : List Cond := .code yX3_setInt cX3_setInt 8 (some .int) :: TB
abbrev cX3_setReference : ByteArray := prog_1_method_5_code
def yX3_setReference : MethodName := ⟨RX3, "setReference", "(IIII)I"⟩
abbrev wsX3_setReference : List Cond := .code yX3_setReference cX3_setReference 8 (some .int) :: TB
abbrev cX3_setRoot : ByteArray := prog_1_method_6_code
def yX3_setRoot : MethodName := ⟨RX3, "setRoot", "(III)I"⟩
abbrev wsX3_setRoot : List Cond := .code yX3_setRoot cX3_setRoot 6 (some .int) :: TB
abbrev cX3_getInt : ByteArray := prog_1_method_7_code
def yX3_getInt : MethodName := ⟨RX3, "getInt", "(III)I"⟩
abbrev wsX3_getInt : List Cond := .code yX3_getInt cX3_getInt 5 (some .int) :: TB
abbrev cX3_getReference : ByteArray := prog_1_method_8_code
def yX3_getReference : MethodName := ⟨RX3, "getReference", "(III)I"⟩
abbrev wsX3_getReference : List Cond := .code yX3_getReference cX3_getReference 5 (some .int) :: TB
abbrev cX3_getRoot : ByteArray := prog_1_method_9_code
def yX3_getRoot : MethodName := ⟨RX3, "getRoot", "(II)I"⟩
abbrev wsX3_getRoot : List Cond := .code yX3_getRoot cX3_getRoot 5 (some .int) :: TB
abbrev cX3_commit : ByteArray := prog_1_method_10_code
def yX3_commit : MethodName := ⟨RX3, "commit", "(I)I"⟩
abbrev wsX3_commit : List Cond := .code yX3_commit cX3_commit 3 (some .int) :: TB
abbrev cX3_abort : ByteArray := prog_1_method_11_code
def yX3_abort : MethodName := ⟨RX3, "abort", "(I)I"⟩
abbrev wsX3_abort : List Cond := .code yX3_abort cX3_abort 2 (some .int) :: TB
abbrev cX3_checkpoint : ByteArray := prog_1_method_12_code
def yX3_checkpoint : MethodName := ⟨RX3, "checkpoint", "()I"⟩
abbrev wsX3_checkpoint : List Cond := .code yX3_checkpoint cX3_checkpoint 1 (some .int) :: TB
abbrev cX3_crash : ByteArray := prog_1_method_13_code
def yX3_crash : MethodName := ⟨RX3, "crash", "()I"⟩
abbrev wsX3_crash : List Cond := .code yX3_crash cX3_crash 3 (some .int) :: TB
abbrev cX3_collect : ByteArray := prog_1_method_14_code
def yX3_collect : MethodName := ⟨RX3, "collect", "(I)I"⟩
abbrev wsX3_collect : List Cond := .code yX3_collect cX3_collect 3 (some .int) :: TB
abbrev cX3_fields : ByteArray := prog_1_method_15_code
def yX3_fields : MethodName := ⟨RX3, "fields", "(I)I"⟩
abbrev wsX3_fields : List Cond := .code yX3_fields cX3_fields 2 (some .int) :: TB
abbrev cX3_lockedBy : ByteArray := prog_1_method_16_code
def yX3_lockedBy : MethodName := ⟨RX3, "lockedBy", "(II)I"⟩
abbrev wsX3_lockedBy : List Cond := .code yX3_lockedBy cX3_lockedBy 3 (some .int) :: TB
abbrev cX3_count : ByteArray := prog_1_method_17_code
def yX3_count : MethodName := ⟨RX3, "count", "(I)I"⟩
abbrev wsX3_count : List Cond := .code yX3_count cX3_count 2 (some .int) :: TB
abbrev cX3_unusedTransaction : ByteArray := prog_1_method_18_code
def yX3_unusedTransaction : MethodName := ⟨RX3, "unusedTransaction", "()LStableHeap$Transaction;"⟩
abbrev wsX3_unusedTransaction : List Cond := .code yX3_unusedTransaction cX3_unusedTransaction 2 (some (.object "StableHeap$Transaction")) :: TB
abbrev cX3_activeTransaction : ByteArray := prog_1_method_19_code
def yX3_activeTransaction : MethodName := ⟨RX3, "activeTransaction", "(I)LStableHeap$Transaction;"⟩
abbrev wsX3_activeTransaction : List Cond := .code yX3_activeTransaction cX3_activeTransaction 3 (some (.object "StableHeap$Transaction")) :: TB
abbrev cX3_activeTransactions : ByteArray := prog_1_method_20_code
def yX3_activeTransactions : MethodName := ⟨RX3, "activeTransactions", "()I"⟩
abbrev wsX3_activeTransactions : List Cond := .code yX3_activeTransactions cX3_activeTransactions 3 (some .int) :: TB
abbrev cX3_objectWith : ByteArray := prog_1_method_21_code
def yX3_objectWith : MethodName := ⟨RX3, "objectWith", "(I)LStableHeap$Lockable;"⟩
abbrev wsX3_objectWith : List Cond := .code yX3_objectWith cX3_objectWith 3 (some (.object "StableHeap$Lockable")) :: TB
abbrev cX3_findObject : ByteArray := prog_1_method_22_code
def yX3_findObject : MethodName := ⟨RX3, "findObject", "(I)LStableHeap$Lockable;"⟩
abbrev wsX3_findObject : List Cond := .code yX3_findObject cX3_findObject 3 (some (.object "StableHeap$Lockable")) :: TB
abbrev cX3_fieldOf : ByteArray := prog_1_method_23_code
def yX3_fieldOf : MethodName := ⟨RX3, "fieldOf", "(LStableHeap$Lockable;I)LStableHeap$Place;"⟩
abbrev wsX3_fieldOf : List Cond := .code yX3_fieldOf cX3_fieldOf 2 (some (.object "StableHeap$Place")) :: TB
abbrev cX3_rootAt : ByteArray := prog_1_method_24_code
def yX3_rootAt : MethodName := ⟨RX3, "rootAt", "(I)LStableHeap$Lockable;"⟩
abbrev wsX3_rootAt : List Cond := .code yX3_rootAt cX3_rootAt 2 (some (.object "StableHeap$Lockable")) :: TB
abbrev cX3_handleOf : ByteArray := prog_1_method_25_code
def yX3_handleOf : MethodName := ⟨RX3, "handleOf", "(LStableHeap$Lockable;)I"⟩
abbrev wsX3_handleOf : List Cond := .code yX3_handleOf cX3_handleOf 1 (some .int) :: TB
abbrev cX3_refuseIfLockedByAnother : ByteArray := prog_1_method_26_code
def yX3_refuseIfLockedByAnother : MethodName := ⟨RX3, "refuseIfLockedByAnother", "(LStableHeap$Lockable;LStableHeap$Transaction;)V"⟩
abbrev wsX3_refuseIfLockedByAnother : List Cond := .code yX3_refuseIfLockedByAnother cX3_refuseIfLockedByAnother 2 none :: TB
abbrev cX3_readField : ByteArray := prog_1_method_27_code
def yX3_readField : MethodName := ⟨RX3, "readField", "(III)LStableHeap$Place;"⟩
abbrev wsX3_readField : List Cond := .code yX3_readField cX3_readField 7 (some (.object "StableHeap$Place")) :: TB
abbrev cX3_refer : ByteArray := prog_1_method_28_code
def yX3_refer : MethodName := ⟨RX3, "refer", "(LStableHeap$Transaction;LStableHeap$Lockable;LStableHeap$Place;I)V"⟩
abbrev wsX3_refer : List Cond := .code yX3_refer cX3_refer 6 none :: TB
abbrev cX3_wordsInLog : ByteArray := prog_1_method_29_code
def yX3_wordsInLog : MethodName := ⟨RX3, "wordsInLog", "()I"⟩
abbrev wsX3_wordsInLog : List Cond := .code yX3_wordsInLog cX3_wordsInLog 3 (some .int) :: TB
abbrev cX3_writeRecord : ByteArray := prog_1_method_30_code
def yX3_writeRecord : MethodName := ⟨RX3, "writeRecord", "(LStableHeap$Transaction;I)V"⟩
abbrev wsX3_writeRecord : List Cond := .code yX3_writeRecord cX3_writeRecord 3 none :: TB
abbrev cX3_end : ByteArray := prog_1_method_31_code
def yX3_end : MethodName := ⟨RX3, "end", "(LStableHeap$Transaction;Z)I"⟩
abbrev wsX3_end : List Cond := .code yX3_end cX3_end 5 (some .int) :: TB
abbrev cX3_findHeld : ByteArray := prog_1_method_32_code
def yX3_findHeld : MethodName := ⟨RX3, "findHeld", "()V"⟩
abbrev wsX3_findHeld : List Cond := .code yX3_findHeld cX3_findHeld 2 none :: TB
abbrev cX3_holdTargets : ByteArray := prog_1_method_33_code
def yX3_holdTargets : MethodName := ⟨RX3, "holdTargets", "(LStableHeap$Lockable;)V"⟩
abbrev wsX3_holdTargets : List Cond := .code yX3_holdTargets cX3_holdTargets 3 none :: TB
abbrev cX3_hold : ByteArray := prog_1_method_34_code
def yX3_hold : MethodName := ⟨RX3, "hold", "(LStableHeap$Lockable;)V"⟩
abbrev wsX3_hold : List Cond := .code yX3_hold cX3_hold 2 none :: TB
abbrev cX3_flip : ByteArray := prog_1_method_35_code
def yX3_flip : MethodName := ⟨RX3, "flip", "()V"⟩
abbrev wsX3_flip : List Cond := .code yX3_flip cX3_flip 3 none :: TB
abbrev cX4_init : ByteArray := prog_6_method_1_code
def yX4_init : MethodName := ⟨RX4, "<init>", "()V"⟩
abbrev wsX4_init : List Cond := .code yX4_init cX4_init 1 none :: TB
abbrev cX4_thrown : ByteArray := prog_6_method_2_code
def yX4_thrown : MethodName := ⟨RX4, "thrown", "()I"⟩
abbrev wsX4_thrown : List Cond := .code yX4_thrown cX4_thrown 1 (some .int) :: TB
abbrev cX4_raise : ByteArray := prog_6_method_3_code
def yX4_raise : MethodName := ⟨RX4, "raise", "(I)I"⟩
abbrev wsX4_raise : List Cond := .code yX4_raise cX4_raise 2 (some .int) :: TB
abbrev cX4_out : ByteArray := prog_6_method_4_code
def yX4_out : MethodName := ⟨RX4, "out", "(II)Z"⟩
abbrev wsX4_out : List Cond := .code yX4_out cX4_out 2 (some .boolean) :: TB
abbrev cX4_place : ByteArray := prog_6_method_5_code
def yX4_place : MethodName := ⟨RX4, "place", "(I)I"⟩
abbrev wsX4_place : List Cond := .code yX4_place cX4_place 3 (some .int) :: TB
abbrev cX4_row : ByteArray := prog_6_method_6_code
def yX4_row : MethodName := ⟨RX4, "row", "(I)I"⟩
abbrev wsX4_row : List Cond := .code yX4_row cX4_row 3 (some .int) :: TB
abbrev cX4_log : ByteArray := prog_6_method_7_code
def yX4_log : MethodName := ⟨RX4, "log", "()I"⟩
abbrev wsX4_log : List Cond := .code yX4_log cX4_log 1 (some .int) :: TB
abbrev cX4_actives : ByteArray := prog_6_method_8_code
def yX4_actives : MethodName := ⟨RX4, "actives", "()I"⟩
abbrev wsX4_actives : List Cond := .code yX4_actives cX4_actives 3 (some .int) :: TB
abbrev cX4_begin : ByteArray := prog_6_method_9_code
def yX4_begin : MethodName := ⟨RX4, "begin", "()I"⟩
abbrev wsX4_begin : List Cond := .code yX4_begin cX4_begin 2 (some .int) :: TB
abbrev cX4_make : ByteArray := prog_6_method_10_code
def yX4_make : MethodName := ⟨RX4, "make", "(II)I"⟩
abbrev wsX4_make : List Cond := .code yX4_make cX4_make 6 (some .int) :: TB
abbrev cX4_cell : ByteArray := prog_6_method_11_code
def yX4_cell : MethodName := ⟨RX4, "cell", "(III)I"⟩
abbrev wsX4_cell : List Cond := .code yX4_cell cX4_cell 5 (some .int) :: TB
abbrev cX4_rootCell : ByteArray := prog_6_method_12_code
def yX4_rootCell : MethodName := ⟨RX4, "rootCell", "(II)I"⟩
abbrev wsX4_rootCell : List Cond := .code yX4_rootCell cX4_rootCell 3 (some .int) :: TB
abbrev cX4_lockCell : ByteArray := prog_6_method_13_code
def yX4_lockCell : MethodName := ⟨RX4, "lockCell", "(II)V"⟩
abbrev wsX4_lockCell : List Cond := .code yX4_lockCell cX4_lockCell 3 none :: TB
abbrev cX4_replaced : ByteArray := prog_6_method_14_code
def yX4_replaced : MethodName := ⟨RX4, "replaced", "(II)Z"⟩
abbrev wsX4_replaced : List Cond := .code yX4_replaced cX4_replaced 4 (some .boolean) :: TB
abbrev cX4_assign : ByteArray := prog_6_method_15_code
def yX4_assign : MethodName := ⟨RX4, "assign", "(IZI)V"⟩
abbrev wsX4_assign : List Cond := .code yX4_assign cX4_assign 4 none :: TB
abbrev cX4_set : ByteArray := prog_6_method_16_code
def yX4_set : MethodName := ⟨RX4, "set", "(IIZI)I"⟩
abbrev wsX4_set : List Cond := .code yX4_set cX4_set 5 (some .int) :: TB
abbrev cX4_setInt : ByteArray := prog_6_method_17_code
def yX4_setInt : MethodName := ⟨RX4, "setInt", "(IIII)I"⟩
abbrev wsX4_setInt : List Cond := .code yX4_setInt cX4_setInt 6 (some .int) :: TB
abbrev cX4_refer : ByteArray := prog_6_method_18_code
def yX4_refer : MethodName := ⟨RX4, "refer", "(III)I"⟩
abbrev wsX4_refer : List Cond := .code yX4_refer cX4_refer 4 (some .int) :: TB
abbrev cX4_setReference : ByteArray := prog_6_method_19_code
def yX4_setReference : MethodName := ⟨RX4, "setReference", "(IIII)I"⟩
abbrev wsX4_setReference : List Cond := .code yX4_setReference cX4_setReference 5 (some .int) :: TB
abbrev cX4_setRoot : ByteArray := prog_6_method_20_code
def yX4_setRoot : MethodName := ⟨RX4, "setRoot", "(III)I"⟩
abbrev wsX4_setRoot : List Cond := .code yX4_setRoot cX4_setRoot 4 (some .int) :: TB
abbrev cX4_get : ByteArray := prog_6_method_21_code
def yX4_get : MethodName := ⟨RX4, "get", "(IIIZ)I"⟩
abbrev wsX4_get : List Cond := .code yX4_get cX4_get 6 (some .int) :: TB
abbrev cX4_getInt : ByteArray := prog_6_method_22_code
def yX4_getInt : MethodName := ⟨RX4, "getInt", "(III)I"⟩
abbrev wsX4_getInt : List Cond := .code yX4_getInt cX4_getInt 4 (some .int) :: TB
abbrev cX4_getReference : ByteArray := prog_6_method_23_code
def yX4_getReference : MethodName := ⟨RX4, "getReference", "(III)I"⟩
abbrev wsX4_getReference : List Cond := .code yX4_getReference cX4_getReference 4 (some .int) :: TB
abbrev cX4_getRoot : ByteArray := prog_6_method_24_code
def yX4_getRoot : MethodName := ⟨RX4, "getRoot", "(II)I"⟩
abbrev wsX4_getRoot : List Cond := .code yX4_getRoot cX4_getRoot 4 (some .int) :: TB
abbrev cX4_unlock : ByteArray := prog_6_method_25_code
def yX4_unlock : MethodName := ⟨RX4, "unlock", "(I)I"⟩
abbrev wsX4_unlock : List Cond := .code yX4_unlock cX4_unlock 4 (some .int) :: TB
abbrev cX4_forget : ByteArray := prog_6_method_26_code
def yX4_forget : MethodName := ⟨RX4, "forget", "(IZ)V"⟩
abbrev wsX4_forget : List Cond := .code yX4_forget cX4_forget 5 none :: TB
abbrev cX4_end : ByteArray := prog_6_method_27_code
def yX4_end : MethodName := ⟨RX4, "end", "(IZ)I"⟩
abbrev wsX4_end : List Cond := .code yX4_end cX4_end 4 (some .int) :: TB
abbrev cX4_commit : ByteArray := prog_6_method_28_code
def yX4_commit : MethodName := ⟨RX4, "commit", "(I)I"⟩
abbrev wsX4_commit : List Cond := .code yX4_commit cX4_commit 3 (some .int) :: TB
abbrev cX4_abort : ByteArray := prog_6_method_29_code
def yX4_abort : MethodName := ⟨RX4, "abort", "(I)I"⟩
abbrev wsX4_abort : List Cond := .code yX4_abort cX4_abort 3 (some .int) :: TB
abbrev cX4_checkpoint : ByteArray := prog_6_method_30_code
def yX4_checkpoint : MethodName := ⟨RX4, "checkpoint", "()I"⟩
abbrev wsX4_checkpoint : List Cond := .code yX4_checkpoint cX4_checkpoint 1 (some .int) :: TB
abbrev cX4_crash : ByteArray := prog_6_method_31_code
def yX4_crash : MethodName := ⟨RX4, "crash", "()I"⟩
abbrev wsX4_crash : List Cond := .code yX4_crash cX4_crash 4 (some .int) :: TB
abbrev cX4_hold : ByteArray := prog_6_method_32_code
def yX4_hold : MethodName := ⟨RX4, "hold", "(I)V"⟩
abbrev wsX4_hold : List Cond := .code yX4_hold cX4_hold 3 none :: TB
abbrev cX4_markHeld : ByteArray := prog_6_method_33_code
def yX4_markHeld : MethodName := ⟨RX4, "markHeld", "()I"⟩
abbrev wsX4_markHeld : List Cond := .code yX4_markHeld cX4_markHeld 4 (some .int) :: TB
abbrev cX4_collect : ByteArray := prog_6_method_34_code
def yX4_collect : MethodName := ⟨RX4, "collect", "(I)I"⟩
abbrev wsX4_collect : List Cond := .code yX4_collect cX4_collect 5 (some .int) :: TB
abbrev cX4_fields : ByteArray := prog_6_method_35_code
def yX4_fields : MethodName := ⟨RX4, "fields", "(I)I"⟩
abbrev wsX4_fields : List Cond := .code yX4_fields cX4_fields 3 (some .int) :: TB
abbrev cX4_lockedBy : ByteArray := prog_6_method_36_code
def yX4_lockedBy : MethodName := ⟨RX4, "lockedBy", "(II)I"⟩
abbrev wsX4_lockedBy : List Cond := .code yX4_lockedBy cX4_lockedBy 4 (some .int) :: TB
abbrev cX4_count : ByteArray := prog_6_method_37_code
def yX4_count : MethodName := ⟨RX4, "count", "(I)I"⟩
abbrev wsX4_count : List Cond := .code yX4_count cX4_count 4 (some .int) :: TB
abbrev cX0_init : ByteArray := prog_2_method_1_code
def yX0_init : MethodName := ⟨RX0, "<init>", "(II)V"⟩
abbrev wsX0_init : List Cond := .code yX0_init cX0_init 4 none :: TB
abbrev cX0_words : ByteArray := prog_2_method_2_code
def yX0_words : MethodName := ⟨RX0, "words", "()I"⟩
abbrev wsX0_words : List Cond := .code yX0_words cX0_words 1 (some .int) :: TB
abbrev cX0_unlock : ByteArray := prog_2_method_3_code
def yX0_unlock : MethodName := ⟨RX0, "unlock", "(IZ)I"⟩
abbrev wsX0_unlock : List Cond := .code yX0_unlock cX0_unlock 4 (some .int) :: TB
abbrev cX1_init : ByteArray := prog_3_method_1_code
def yX1_init : MethodName := ⟨RX1, "<init>", "()V"⟩
abbrev wsX1_init : List Cond := .code yX1_init cX1_init 1 none :: TB
abbrev cX1_putNumber : ByteArray := prog_3_method_2_code
def yX1_putNumber : MethodName := ⟨RX1, "putNumber", "(I)V"⟩
abbrev wsX1_putNumber : List Cond := .code yX1_putNumber cX1_putNumber 2 none :: TB
abbrev cX1_putReference : ByteArray := prog_3_method_3_code
def yX1_putReference : MethodName := ⟨RX1, "putReference", "(LStableHeap$Lockable;)V"⟩
abbrev wsX1_putReference : List Cond := .code yX1_putReference cX1_putReference 2 none :: TB
abbrev cX1_takeBack : ByteArray := prog_3_method_4_code
def yX1_takeBack : MethodName := ⟨RX1, "takeBack", "()V"⟩
abbrev wsX1_takeBack : List Cond := .code yX1_takeBack cX1_takeBack 1 none :: TB
abbrev cX1_forgetFormer : ByteArray := prog_3_method_5_code
def yX1_forgetFormer : MethodName := ⟨RX1, "forgetFormer", "()V"⟩
abbrev wsX1_forgetFormer : List Cond := .code yX1_forgetFormer cX1_forgetFormer 1 none :: TB
abbrev cX1_rememberFormer : ByteArray := prog_3_method_6_code
def yX1_rememberFormer : MethodName := ⟨RX1, "rememberFormer", "()V"⟩
abbrev wsX1_rememberFormer : List Cond := .code yX1_rememberFormer cX1_rememberFormer 1 none :: TB
abbrev cX2_init : ByteArray := prog_4_method_1_code
def yX2_init : MethodName := ⟨RX2, "<init>", "()V"⟩
abbrev wsX2_init : List Cond := .code yX2_init cX2_init 1 none :: TB
abbrev cX2_isActive : ByteArray := prog_4_method_2_code
def yX2_isActive : MethodName := ⟨RX2, "isActive", "()Z"⟩
abbrev wsX2_isActive : List Cond := .code yX2_isActive cX2_isActive 1 (some .boolean) :: TB
abbrev cL_begin : ByteArray := method_3_code
def yL_begin : MethodName := ⟨RL, "begin", "(LStableHeap;[J)I"⟩
abbrev hhL_begin : List (Nat × Nat × Nat × Nat) := [((0 : Nat), (8 : Nat), (11 : Nat), (13 : Nat)), ((0 : Nat), (8 : Nat), (14 : Nat), (15 : Nat))]
abbrev wsL_begin : List Cond := .codeWith yL_begin cL_begin 3 (some .int) hhL_begin :: TB
abbrev cL_make : ByteArray := method_4_code
def yL_make : MethodName := ⟨RL, "make", "(LStableHeap;II[J)I"⟩
abbrev hhL_make : List (Nat × Nat × Nat × Nat) := [((0 : Nat), (10 : Nat), (13 : Nat), (21 : Nat)), ((0 : Nat), (10 : Nat), (17 : Nat), (23 : Nat)), ((0 : Nat), (10 : Nat), (21 : Nat), (13 : Nat)), ((0 : Nat), (10 : Nat), (25 : Nat), (15 : Nat))]
abbrev wsL_make : List Cond := .codeWith yL_make cL_make 5 (some .int) hhL_make :: TB
abbrev cL_setInt : ByteArray := method_5_code
def yL_setInt : MethodName := ⟨RL, "setInt", "(LStableHeap;IIII[J)I"⟩
abbrev hhL_setInt : List (Nat × Nat × Nat × Nat) := [((0 : Nat), (14 : Nat), (17 : Nat), (21 : Nat)), ((0 : Nat), (14 : Nat), (21 : Nat), (29 : Nat)), ((0 : Nat), (14 : Nat), (25 : Nat), (13 : Nat)), ((0 : Nat), (14 : Nat), (29 : Nat), (15 : Nat))]
abbrev wsL_setInt : List Cond := .codeWith yL_setInt cL_setInt 7 (some .int) hhL_setInt :: TB
abbrev cL_setReference : ByteArray := method_6_code
def yL_setReference : MethodName := ⟨RL, "setReference", "(LStableHeap;IIII[J)I"⟩
abbrev hhL_setReference : List (Nat × Nat × Nat × Nat) := [((0 : Nat), (14 : Nat), (17 : Nat), (21 : Nat)), ((0 : Nat), (14 : Nat), (21 : Nat), (29 : Nat)), ((0 : Nat), (14 : Nat), (25 : Nat), (13 : Nat)), ((0 : Nat), (14 : Nat), (29 : Nat), (23 : Nat)), ((0 : Nat), (14 : Nat), (33 : Nat), (15 : Nat))]
abbrev wsL_setReference : List Cond := .codeWith yL_setReference cL_setReference 7 (some .int) hhL_setReference :: TB
abbrev cL_setRoot : ByteArray := method_7_code
def yL_setRoot : MethodName := ⟨RL, "setRoot", "(LStableHeap;III[J)I"⟩
abbrev hhL_setRoot : List (Nat × Nat × Nat × Nat) := [((0 : Nat), (12 : Nat), (15 : Nat), (21 : Nat)), ((0 : Nat), (12 : Nat), (19 : Nat), (29 : Nat)), ((0 : Nat), (12 : Nat), (23 : Nat), (13 : Nat)), ((0 : Nat), (12 : Nat), (27 : Nat), (23 : Nat)), ((0 : Nat), (12 : Nat), (31 : Nat), (15 : Nat))]
abbrev wsL_setRoot : List Cond := .codeWith yL_setRoot cL_setRoot 6 (some .int) hhL_setRoot :: TB
abbrev cL_getInt : ByteArray := method_8_code
def yL_getInt : MethodName := ⟨RL, "getInt", "(LStableHeap;III[J)I"⟩
abbrev hhL_getInt : List (Nat × Nat × Nat × Nat) := [((0 : Nat), (12 : Nat), (15 : Nat), (21 : Nat)), ((0 : Nat), (12 : Nat), (19 : Nat), (29 : Nat)), ((0 : Nat), (12 : Nat), (23 : Nat), (13 : Nat)), ((0 : Nat), (12 : Nat), (27 : Nat), (41 : Nat))]
abbrev wsL_getInt : List Cond := .codeWith yL_getInt cL_getInt 6 (some .int) hhL_getInt :: TB
abbrev cL_getReference : ByteArray := method_9_code
def yL_getReference : MethodName := ⟨RL, "getReference", "(LStableHeap;III[J)I"⟩
abbrev hhL_getReference : List (Nat × Nat × Nat × Nat) := [((0 : Nat), (12 : Nat), (15 : Nat), (21 : Nat)), ((0 : Nat), (12 : Nat), (19 : Nat), (29 : Nat)), ((0 : Nat), (12 : Nat), (23 : Nat), (13 : Nat)), ((0 : Nat), (12 : Nat), (27 : Nat), (41 : Nat))]
abbrev wsL_getReference : List Cond := .codeWith yL_getReference cL_getReference 6 (some .int) hhL_getReference :: TB
abbrev cL_getRoot : ByteArray := method_10_code
def yL_getRoot : MethodName := ⟨RL, "getRoot", "(LStableHeap;II[J)I"⟩
abbrev hhL_getRoot : List (Nat × Nat × Nat × Nat) := [((0 : Nat), (10 : Nat), (13 : Nat), (21 : Nat)), ((0 : Nat), (10 : Nat), (17 : Nat), (29 : Nat)), ((0 : Nat), (10 : Nat), (21 : Nat), (13 : Nat))]
abbrev wsL_getRoot : List Cond := .codeWith yL_getRoot cL_getRoot 5 (some .int) hhL_getRoot :: TB
abbrev cL_commit : ByteArray := method_11_code
def yL_commit : MethodName := ⟨RL, "commit", "(LStableHeap;I[J)I"⟩
abbrev hhL_commit : List (Nat × Nat × Nat × Nat) := [((0 : Nat), (9 : Nat), (12 : Nat), (21 : Nat)), ((0 : Nat), (9 : Nat), (15 : Nat), (15 : Nat))]
abbrev wsL_commit : List Cond := .codeWith yL_commit cL_commit 4 (some .int) hhL_commit :: TB
abbrev cL_abort : ByteArray := method_12_code
def yL_abort : MethodName := ⟨RL, "abort", "(LStableHeap;I[J)I"⟩
abbrev hhL_abort : List (Nat × Nat × Nat × Nat) := [((0 : Nat), (9 : Nat), (12 : Nat), (21 : Nat))]
abbrev wsL_abort : List Cond := .codeWith yL_abort cL_abort 4 (some .int) hhL_abort :: TB
abbrev cL_fields : ByteArray := method_13_code
def yL_fields : MethodName := ⟨RL, "fields", "(LStableHeap;I[J)I"⟩
abbrev hhL_fields : List (Nat × Nat × Nat × Nat) := [((0 : Nat), (9 : Nat), (12 : Nat), (21 : Nat))]
abbrev wsL_fields : List Cond := .codeWith yL_fields cL_fields 4 (some .int) hhL_fields :: TB
abbrev cL_lockedBy : ByteArray := method_14_code
def yL_lockedBy : MethodName := ⟨RL, "lockedBy", "(LStableHeap;II[J)I"⟩
abbrev hhL_lockedBy : List (Nat × Nat × Nat × Nat) := [((0 : Nat), (10 : Nat), (13 : Nat), (21 : Nat))]
abbrev wsL_lockedBy : List Cond := .codeWith yL_lockedBy cL_lockedBy 5 (some .int) hhL_lockedBy :: TB
abbrev cL_count : ByteArray := method_15_code
def yL_count : MethodName := ⟨RL, "count", "(LStableHeap;I[J)I"⟩
abbrev hhL_count : List (Nat × Nat × Nat × Nat) := [((0 : Nat), (9 : Nat), (12 : Nat), (23 : Nat))]
abbrev wsL_count : List Cond := .codeWith yL_count cL_count 4 (some .int) hhL_count :: TB
end
section
/-! decode rows -/
theorem dX3_init_0 : decode cX3_init 0 = .ok (.aload_n 0, 1) := by decide +kernel
theorem dX3_init_1 : decode cX3_init 1 = .ok (.invokespecial 1, 3) := by decide +kernel
theorem dX3_init_4 : decode cX3_init 4 = .ok (.aload_n 0, 1) := by decide +kernel
theorem dX3_init_5 : decode cX3_init 5 = .ok (.iconst 4, 1) := by decide +kernel
theorem dX3_init_6 : decode cX3_init 6 = .ok (.anewarray 9, 3) := by decide +kernel
theorem dX3_init_9 : decode cX3_init 9 = .ok (.putfield 11, 3) := by decide +kernel
theorem dX3_init_12 : decode cX3_init 12 = .ok (.iconst 0, 1) := by decide +kernel
theorem dX3_init_13 : decode cX3_init 13 = .ok (.istore_n 1, 1) := by decide +kernel
theorem dX3_init_14 : decode cX3_init 14 = .ok (.iload_n 1, 1) := by decide +kernel
theorem dX3_init_15 : decode cX3_init 15 = .ok (.iconst 4, 1) := by decide +kernel
theorem dX3_init_16 : decode cX3_init 16 = .ok (.if_icmp .ge 24, 3) := by decide +kernel
theorem dX3_init_19 : decode cX3_init 19 = .ok (.aload_n 0, 1) := by decide +kernel
theorem dX3_init_20 : decode cX3_init 20 = .ok (.getfield 11, 3) := by decide +kernel
theorem dX3_init_23 : decode cX3_init 23 = .ok (.iload_n 1, 1) := by decide +kernel
theorem dX3_init_24 : decode cX3_init 24 = .ok (.new 9, 3) := by decide +kernel
theorem dX3_init_27 : decode cX3_init 27 = .ok (.dup, 1) := by decide +kernel
theorem dX3_init_28 : decode cX3_init 28 = .ok (.iconst 0, 1) := by decide +kernel
theorem dX3_init_29 : decode cX3_init 29 = .ok (.iconst 1, 1) := by decide +kernel
theorem dX3_init_30 : decode cX3_init 30 = .ok (.invokespecial 15, 3) := by decide +kernel
theorem dX3_init_33 : decode cX3_init 33 = .ok (.aastore, 1) := by decide +kernel
theorem dX3_init_34 : decode cX3_init 34 = .ok (.iinc 1 1, 3) := by decide +kernel
theorem dX3_init_37 : decode cX3_init 37 = .ok (.goto (-23), 3) := by decide +kernel
theorem dX3_init_40 : decode cX3_init 40 = .ok (.aload_n 0, 1) := by decide +kernel
theorem dX3_init_41 : decode cX3_init 41 = .ok (.bipush 80, 2) := by decide +kernel
theorem dX3_init_43 : decode cX3_init 43 = .ok (.anewarray 9, 3) := by decide +kernel
theorem dX3_init_46 : decode cX3_init 46 = .ok (.putfield 18, 3) := by decide +kernel
theorem dX3_init_49 : decode cX3_init 49 = .ok (.aload_n 0, 1) := by decide +kernel
theorem dX3_init_50 : decode cX3_init 50 = .ok (.bipush 80, 2) := by decide +kernel
theorem dX3_init_52 : decode cX3_init 52 = .ok (.anewarray 9, 3) := by decide +kernel
theorem dX3_init_55 : decode cX3_init 55 = .ok (.putfield 21, 3) := by decide +kernel
theorem dX3_init_58 : decode cX3_init 58 = .ok (.aload_n 0, 1) := by decide +kernel
theorem dX3_init_59 : decode cX3_init 59 = .ok (.iconst 3, 1) := by decide +kernel
theorem dX3_init_60 : decode cX3_init 60 = .ok (.anewarray 24, 3) := by decide +kernel
theorem dX3_init_63 : decode cX3_init 63 = .ok (.putfield 26, 3) := by decide +kernel
theorem dX3_init_66 : decode cX3_init 66 = .ok (.iconst 0, 1) := by decide +kernel
theorem dX3_init_67 : decode cX3_init 67 = .ok (.istore_n 1, 1) := by decide +kernel
theorem dX3_init_68 : decode cX3_init 68 = .ok (.iload_n 1, 1) := by decide +kernel
theorem dX3_init_69 : decode cX3_init 69 = .ok (.iconst 3, 1) := by decide +kernel
theorem dX3_init_70 : decode cX3_init 70 = .ok (.if_icmp .ge 22, 3) := by decide +kernel
theorem dX3_init_73 : decode cX3_init 73 = .ok (.aload_n 0, 1) := by decide +kernel
theorem dX3_init_74 : decode cX3_init 74 = .ok (.getfield 26, 3) := by decide +kernel
theorem dX3_init_77 : decode cX3_init 77 = .ok (.iload_n 1, 1) := by decide +kernel
theorem dX3_init_78 : decode cX3_init 78 = .ok (.new 24, 3) := by decide +kernel
theorem dX3_init_81 : decode cX3_init 81 = .ok (.dup, 1) := by decide +kernel
theorem dX3_init_82 : decode cX3_init 82 = .ok (.invokespecial 30, 3) := by decide +kernel
theorem dX3_init_85 : decode cX3_init 85 = .ok (.aastore, 1) := by decide +kernel
theorem dX3_init_86 : decode cX3_init 86 = .ok (.iinc 1 1, 3) := by decide +kernel
theorem dX3_init_89 : decode cX3_init 89 = .ok (.goto (-21), 3) := by decide +kernel
theorem dX3_init_92 : decode cX3_init 92 = .ok (.return_, 1) := by decide +kernel
theorem dX3_begin_0 : decode cX3_begin 0 = .ok (.aload_n 0, 1) := by decide +kernel
theorem dX3_begin_1 : decode cX3_begin 1 = .ok (.invokevirtual 31, 3) := by decide +kernel
theorem dX3_begin_4 : decode cX3_begin 4 = .ok (.astore_n 1, 1) := by decide +kernel
theorem dX3_begin_5 : decode cX3_begin 5 = .ok (.aload_n 0, 1) := by decide +kernel
theorem dX3_begin_6 : decode cX3_begin 6 = .ok (.aload_n 1, 1) := by decide +kernel
theorem dX3_begin_7 : decode cX3_begin 7 = .ok (.iconst 1, 1) := by decide +kernel
theorem dX3_begin_8 : decode cX3_begin 8 = .ok (.invokevirtual 35, 3) := by decide +kernel
theorem dX3_begin_11 : decode cX3_begin 11 = .ok (.aload_n 0, 1) := by decide +kernel
theorem dX3_begin_12 : decode cX3_begin 12 = .ok (.dup, 1) := by decide +kernel
theorem dX3_begin_13 : decode cX3_begin 13 = .ok (.getfield 39, 3) := by decide +kernel
theorem dX3_begin_16 : decode cX3_begin 16 = .ok (.iconst 1, 1) := by decide +kernel
theorem dX3_begin_17 : decode cX3_begin 17 = .ok (.iadd, 1) := by decide +kernel
theorem dX3_begin_18 : decode cX3_begin 18 = .ok (.putfield 39, 3) := by decide +kernel
theorem dX3_begin_21 : decode cX3_begin 21 = .ok (.aload_n 1, 1) := by decide +kernel
theorem dX3_begin_22 : decode cX3_begin 22 = .ok (.aload_n 0, 1) := by decide +kernel
theorem dX3_begin_23 : decode cX3_begin 23 = .ok (.getfield 39, 3) := by decide +kernel
theorem dX3_begin_26 : decode cX3_begin 26 = .ok (.putfield 43, 3) := by decide +kernel
theorem dX3_begin_29 : decode cX3_begin 29 = .ok (.aload_n 0, 1) := by decide +kernel
theorem dX3_begin_30 : decode cX3_begin 30 = .ok (.getfield 39, 3) := by decide +kernel
theorem dX3_begin_33 : decode cX3_begin 33 = .ok (.ireturn, 1) := by decide +kernel
theorem dX3_make_0 : decode cX3_make 0 = .ok (.aload_n 0, 1) := by decide +kernel
theorem dX3_make_1 : decode cX3_make 1 = .ok (.iload_n 1, 1) := by decide +kernel
theorem dX3_make_2 : decode cX3_make 2 = .ok (.invokevirtual 46, 3) := by decide +kernel
theorem dX3_make_5 : decode cX3_make 5 = .ok (.astore_n 3, 1) := by decide +kernel
theorem dX3_make_6 : decode cX3_make 6 = .ok (.iload_n 2, 1) := by decide +kernel
theorem dX3_make_7 : decode cX3_make 7 = .ok (.ifCond .lt 8, 3) := by decide +kernel
theorem dX3_make_10 : decode cX3_make 10 = .ok (.iload_n 2, 1) := by decide +kernel
theorem dX3_make_11 : decode cX3_make 11 = .ok (.iconst 4, 1) := by decide +kernel
theorem dX3_make_12 : decode cX3_make 12 = .ok (.if_icmp .le 13, 3) := by decide +kernel
theorem dX3_make_15 : decode cX3_make 15 = .ok (.new 50, 3) := by decide +kernel
theorem dX3_make_18 : decode cX3_make 18 = .ok (.dup, 1) := by decide +kernel
theorem dX3_make_19 : decode cX3_make 19 = .ok (.ldc 52, 2) := by decide +kernel
theorem dX3_make_21 : decode cX3_make 21 = .ok (.invokespecial 54, 3) := by decide +kernel
theorem dX3_make_24 : decode cX3_make 24 = .ok (.athrow, 1) := by decide +kernel
theorem dX3_make_25 : decode cX3_make 25 = .ok (.aload_n 0, 1) := by decide +kernel
theorem dX3_make_26 : decode cX3_make 26 = .ok (.getfield 57, 3) := by decide +kernel
theorem dX3_make_29 : decode cX3_make 29 = .ok (.iconst 1, 1) := by decide +kernel
theorem dX3_make_30 : decode cX3_make 30 = .ok (.iadd, 1) := by decide +kernel
theorem dX3_make_31 : decode cX3_make 31 = .ok (.iload_n 2, 1) := by decide +kernel
theorem dX3_make_32 : decode cX3_make 32 = .ok (.iadd, 1) := by decide +kernel
theorem dX3_make_33 : decode cX3_make 33 = .ok (.bipush 80, 2) := by decide +kernel
theorem dX3_make_35 : decode cX3_make 35 = .ok (.if_icmp .gt 15, 3) := by decide +kernel
theorem dX3_make_38 : decode cX3_make 38 = .ok (.aload_n 0, 1) := by decide +kernel
theorem dX3_make_39 : decode cX3_make 39 = .ok (.getfield 60, 3) := by decide +kernel
theorem dX3_make_42 : decode cX3_make 42 = .ok (.aload_n 0, 1) := by decide +kernel
theorem dX3_make_43 : decode cX3_make 43 = .ok (.getfield 18, 3) := by decide +kernel
theorem dX3_make_46 : decode cX3_make 46 = .ok (.arraylength, 1) := by decide +kernel
theorem dX3_make_47 : decode cX3_make 47 = .ok (.if_icmp .lt 13, 3) := by decide +kernel
theorem dX3_make_50 : decode cX3_make 50 = .ok (.new 63, 3) := by decide +kernel
theorem dX3_make_53 : decode cX3_make 53 = .ok (.dup, 1) := by decide +kernel
theorem dX3_make_54 : decode cX3_make 54 = .ok (.ldc 65, 2) := by decide +kernel
theorem dX3_make_56 : decode cX3_make 56 = .ok (.invokespecial 67, 3) := by decide +kernel
theorem dX3_make_59 : decode cX3_make 59 = .ok (.athrow, 1) := by decide +kernel
theorem dX3_make_60 : decode cX3_make 60 = .ok (.aload_n 0, 1) := by decide +kernel
theorem dX3_make_61 : decode cX3_make 61 = .ok (.aload_n 3, 1) := by decide +kernel
theorem dX3_make_62 : decode cX3_make 62 = .ok (.iconst 2, 1) := by decide +kernel
theorem dX3_make_63 : decode cX3_make 63 = .ok (.invokevirtual 35, 3) := by decide +kernel
theorem dX3_make_66 : decode cX3_make 66 = .ok (.aload_n 0, 1) := by decide +kernel
theorem dX3_make_67 : decode cX3_make 67 = .ok (.dup, 1) := by decide +kernel
theorem dX3_make_68 : decode cX3_make 68 = .ok (.getfield 68, 3) := by decide +kernel
theorem dX3_make_71 : decode cX3_make 71 = .ok (.iconst 1, 1) := by decide +kernel
theorem dX3_make_72 : decode cX3_make 72 = .ok (.iadd, 1) := by decide +kernel
theorem dX3_make_73 : decode cX3_make 73 = .ok (.putfield 68, 3) := by decide +kernel
theorem dX3_make_76 : decode cX3_make 76 = .ok (.new 9, 3) := by decide +kernel
theorem dX3_make_79 : decode cX3_make 79 = .ok (.dup, 1) := by decide +kernel
theorem dX3_make_80 : decode cX3_make 80 = .ok (.aload_n 0, 1) := by decide +kernel
theorem dX3_make_81 : decode cX3_make 81 = .ok (.getfield 68, 3) := by decide +kernel
theorem dX3_make_84 : decode cX3_make 84 = .ok (.iload_n 2, 1) := by decide +kernel
theorem dX3_make_85 : decode cX3_make 85 = .ok (.invokespecial 15, 3) := by decide +kernel
theorem dX3_make_88 : decode cX3_make 88 = .ok (.astore 4, 2) := by decide +kernel
theorem dX3_make_90 : decode cX3_make 90 = .ok (.aload 4, 2) := by decide +kernel
theorem dX3_make_92 : decode cX3_make 92 = .ok (.aload_n 3, 1) := by decide +kernel
theorem dX3_make_93 : decode cX3_make 93 = .ok (.getfield 43, 3) := by decide +kernel
theorem dX3_make_96 : decode cX3_make 96 = .ok (.putfield 71, 3) := by decide +kernel
theorem dX3_make_99 : decode cX3_make 99 = .ok (.aload_n 0, 1) := by decide +kernel
theorem dX3_make_100 : decode cX3_make 100 = .ok (.getfield 18, 3) := by decide +kernel
theorem dX3_make_103 : decode cX3_make 103 = .ok (.aload_n 0, 1) := by decide +kernel
theorem dX3_make_104 : decode cX3_make 104 = .ok (.getfield 60, 3) := by decide +kernel
theorem dX3_make_107 : decode cX3_make 107 = .ok (.aload 4, 2) := by decide +kernel
theorem dX3_make_109 : decode cX3_make 109 = .ok (.aastore, 1) := by decide +kernel
theorem dX3_make_110 : decode cX3_make 110 = .ok (.aload_n 0, 1) := by decide +kernel
theorem dX3_make_111 : decode cX3_make 111 = .ok (.dup, 1) := by decide +kernel
theorem dX3_make_112 : decode cX3_make 112 = .ok (.getfield 60, 3) := by decide +kernel
theorem dX3_make_115 : decode cX3_make 115 = .ok (.iconst 1, 1) := by decide +kernel
theorem dX3_make_116 : decode cX3_make 116 = .ok (.iadd, 1) := by decide +kernel
theorem dX3_make_117 : decode cX3_make 117 = .ok (.putfield 60, 3) := by decide +kernel
theorem dX3_make_120 : decode cX3_make 120 = .ok (.aload_n 0, 1) := by decide +kernel
theorem dX3_make_121 : decode cX3_make 121 = .ok (.dup, 1) := by decide +kernel
theorem dX3_make_122 : decode cX3_make 122 = .ok (.getfield 57, 3) := by decide +kernel
theorem dX3_make_125 : decode cX3_make 125 = .ok (.aload 4, 2) := by decide +kernel
theorem dX3_make_127 : decode cX3_make 127 = .ok (.invokevirtual 74, 3) := by decide +kernel
theorem dX3_make_130 : decode cX3_make 130 = .ok (.iadd, 1) := by decide +kernel
theorem dX3_make_131 : decode cX3_make 131 = .ok (.putfield 57, 3) := by decide +kernel
theorem dX3_make_134 : decode cX3_make 134 = .ok (.aload_n 0, 1) := by decide +kernel
theorem dX3_make_135 : decode cX3_make 135 = .ok (.getfield 68, 3) := by decide +kernel
theorem dX3_make_138 : decode cX3_make 138 = .ok (.ireturn, 1) := by decide +kernel
theorem dX3_setInt_0 : decode cX3_setInt 0 = .ok (.aload_n 0, 1) := by decide +kernel
theorem dX3_setInt_1 : decode cX3_setInt 1 = .ok (.iload_n 1, 1) := by decide +kernel
theorem dX3_setInt_2 : decode cX3_setInt 2 = .ok (.invokevirtual 46, 3) := by decide +kernel
theorem dX3_setInt_5 : decode cX3_setInt 5 = .ok (.astore 5, 2) := by decide +kernel
theorem dX3_setInt_7 : decode cX3_setInt 7 = .ok (.aload_n 0, 1) := by decide +kernel
theorem dX3_setInt_8 : decode cX3_setInt 8 = .ok (.iload_n 2, 1) := by decide +kernel
theorem dX3_setInt_9 : decode cX3_setInt 9 = .ok (.invokevirtual 78, 3) := by decide +kernel
theorem dX3_setInt_12 : decode cX3_setInt 12 = .ok (.astore 6, 2) := by decide +kernel
theorem dX3_setInt_14 : decode cX3_setInt 14 = .ok (.aload 6, 2) := by decide +kernel
theorem dX3_setInt_16 : decode cX3_setInt 16 = .ok (.iload_n 3, 1) := by decide +kernel
theorem dX3_setInt_17 : decode cX3_setInt 17 = .ok (.invokestatic 82, 3) := by decide +kernel
theorem dX3_setInt_20 : decode cX3_setInt 20 = .ok (.astore 7, 2) := by decide +kernel
theorem dX3_setInt_22 : decode cX3_setInt 22 = .ok (.aload 6, 2) := by decide +kernel
theorem dX3_setInt_24 : decode cX3_setInt 24 = .ok (.aload 5, 2) := by decide +kernel
theorem dX3_setInt_26 : decode cX3_setInt 26 = .ok (.invokestatic 86, 3) := by decide +kernel
theorem dX3_setInt_29 : decode cX3_setInt 29 = .ok (.aload_n 0, 1) := by decide +kernel
theorem dX3_setInt_30 : decode cX3_setInt 30 = .ok (.aload 5, 2) := by decide +kernel
theorem dX3_setInt_32 : decode cX3_setInt 32 = .ok (.iconst 3, 1) := by decide +kernel
theorem dX3_setInt_33 : decode cX3_setInt 33 = .ok (.invokevirtual 35, 3) := by decide +kernel
theorem dX3_setInt_36 : decode cX3_setInt 36 = .ok (.aload 6, 2) := by decide +kernel
theorem dX3_setInt_38 : decode cX3_setInt 38 = .ok (.aload 5, 2) := by decide +kernel
theorem dX3_setInt_40 : decode cX3_setInt 40 = .ok (.getfield 43, 3) := by decide +kernel
theorem dX3_setInt_43 : decode cX3_setInt 43 = .ok (.putfield 71, 3) := by decide +kernel
theorem dX3_setInt_46 : decode cX3_setInt 46 = .ok (.aload 7, 2) := by decide +kernel
theorem dX3_setInt_48 : decode cX3_setInt 48 = .ok (.iload 4, 2) := by decide +kernel
theorem dX3_setInt_50 : decode cX3_setInt 50 = .ok (.invokevirtual 90, 3) := by decide +kernel
theorem dX3_setInt_53 : decode cX3_setInt 53 = .ok (.iconst 1, 1) := by decide +kernel
theorem dX3_setInt_54 : decode cX3_setInt 54 = .ok (.ireturn, 1) := by decide +kernel
theorem dX3_setReference_0 : decode cX3_setReference 0 = .ok (.aload_n 0, 1) := by decide +kernel
theorem dX3_setReference_1 : decode cX3_setReference 1 = .ok (.iload_n 1, 1) := by decide +kernel
theorem dX3_setReference_2 : decode cX3_setReference 2 = .ok (.invokevirtual 46, 3) := by decide +kernel
theorem dX3_setReference_5 : decode cX3_setReference 5 = .ok (.astore 5, 2) := by decide +kernel
theorem dX3_setReference_7 : decode cX3_setReference 7 = .ok (.aload_n 0, 1) := by decide +kernel
theorem dX3_setReference_8 : decode cX3_setReference 8 = .ok (.iload_n 2, 1) := by decide +kernel
theorem dX3_setReference_9 : decode cX3_setReference 9 = .ok (.invokevirtual 78, 3) := by decide +kernel
theorem dX3_setReference_12 : decode cX3_setReference 12 = .ok (.astore 6, 2) := by decide +kernel
theorem dX3_setReference_14 : decode cX3_setReference 14 = .ok (.aload 6, 2) := by decide +kernel
theorem dX3_setReference_16 : decode cX3_setReference 16 = .ok (.iload_n 3, 1) := by decide +kernel
theorem dX3_setReference_17 : decode cX3_setReference 17 = .ok (.invokestatic 82, 3) := by decide +kernel
theorem dX3_setReference_20 : decode cX3_setReference 20 = .ok (.astore 7, 2) := by decide +kernel
theorem dX3_setReference_22 : decode cX3_setReference 22 = .ok (.aload_n 0, 1) := by decide +kernel
theorem dX3_setReference_23 : decode cX3_setReference 23 = .ok (.aload 5, 2) := by decide +kernel
theorem dX3_setReference_25 : decode cX3_setReference 25 = .ok (.aload 6, 2) := by decide +kernel
theorem dX3_setReference_27 : decode cX3_setReference 27 = .ok (.aload 7, 2) := by decide +kernel
theorem dX3_setReference_29 : decode cX3_setReference 29 = .ok (.iload 4, 2) := by decide +kernel
theorem dX3_setReference_31 : decode cX3_setReference 31 = .ok (.invokevirtual 96, 3) := by decide +kernel
theorem dX3_setReference_34 : decode cX3_setReference 34 = .ok (.iconst 1, 1) := by decide +kernel
theorem dX3_setReference_35 : decode cX3_setReference 35 = .ok (.ireturn, 1) := by decide +kernel
theorem dX3_setRoot_0 : decode cX3_setRoot 0 = .ok (.aload_n 0, 1) := by decide +kernel
theorem dX3_setRoot_1 : decode cX3_setRoot 1 = .ok (.iload_n 1, 1) := by decide +kernel
theorem dX3_setRoot_2 : decode cX3_setRoot 2 = .ok (.invokevirtual 46, 3) := by decide +kernel
theorem dX3_setRoot_5 : decode cX3_setRoot 5 = .ok (.astore 4, 2) := by decide +kernel
theorem dX3_setRoot_7 : decode cX3_setRoot 7 = .ok (.aload_n 0, 1) := by decide +kernel
theorem dX3_setRoot_8 : decode cX3_setRoot 8 = .ok (.iload_n 2, 1) := by decide +kernel
theorem dX3_setRoot_9 : decode cX3_setRoot 9 = .ok (.invokevirtual 100, 3) := by decide +kernel
theorem dX3_setRoot_12 : decode cX3_setRoot 12 = .ok (.astore 5, 2) := by decide +kernel
theorem dX3_setRoot_14 : decode cX3_setRoot 14 = .ok (.aload_n 0, 1) := by decide +kernel
theorem dX3_setRoot_15 : decode cX3_setRoot 15 = .ok (.aload 4, 2) := by decide +kernel
theorem dX3_setRoot_17 : decode cX3_setRoot 17 = .ok (.aload 5, 2) := by decide +kernel
theorem dX3_setRoot_19 : decode cX3_setRoot 19 = .ok (.aload 5, 2) := by decide +kernel
theorem dX3_setRoot_21 : decode cX3_setRoot 21 = .ok (.getfield 103, 3) := by decide +kernel
theorem dX3_setRoot_24 : decode cX3_setRoot 24 = .ok (.iconst 0, 1) := by decide +kernel
theorem dX3_setRoot_25 : decode cX3_setRoot 25 = .ok (.aaload, 1) := by decide +kernel
theorem dX3_setRoot_26 : decode cX3_setRoot 26 = .ok (.iload_n 3, 1) := by decide +kernel
theorem dX3_setRoot_27 : decode cX3_setRoot 27 = .ok (.invokevirtual 96, 3) := by decide +kernel
theorem dX3_setRoot_30 : decode cX3_setRoot 30 = .ok (.iconst 1, 1) := by decide +kernel
theorem dX3_setRoot_31 : decode cX3_setRoot 31 = .ok (.ireturn, 1) := by decide +kernel
theorem dX3_getInt_0 : decode cX3_getInt 0 = .ok (.aload_n 0, 1) := by decide +kernel
theorem dX3_getInt_1 : decode cX3_getInt 1 = .ok (.iload_n 1, 1) := by decide +kernel
theorem dX3_getInt_2 : decode cX3_getInt 2 = .ok (.iload_n 2, 1) := by decide +kernel
theorem dX3_getInt_3 : decode cX3_getInt 3 = .ok (.iload_n 3, 1) := by decide +kernel
theorem dX3_getInt_4 : decode cX3_getInt 4 = .ok (.invokevirtual 107, 3) := by decide +kernel
theorem dX3_getInt_7 : decode cX3_getInt 7 = .ok (.astore 4, 2) := by decide +kernel
theorem dX3_getInt_9 : decode cX3_getInt 9 = .ok (.aload 4, 2) := by decide +kernel
theorem dX3_getInt_11 : decode cX3_getInt 11 = .ok (.getfield 111, 3) := by decide +kernel
theorem dX3_getInt_14 : decode cX3_getInt 14 = .ok (.ifCond .eq 13, 3) := by decide +kernel
theorem dX3_getInt_17 : decode cX3_getInt 17 = .ok (.new 115, 3) := by decide +kernel
theorem dX3_getInt_20 : decode cX3_getInt 20 = .ok (.dup, 1) := by decide +kernel
theorem dX3_getInt_21 : decode cX3_getInt 21 = .ok (.ldc 117, 2) := by decide +kernel
theorem dX3_getInt_23 : decode cX3_getInt 23 = .ok (.invokespecial 119, 3) := by decide +kernel
theorem dX3_getInt_26 : decode cX3_getInt 26 = .ok (.athrow, 1) := by decide +kernel
theorem dX3_getInt_27 : decode cX3_getInt 27 = .ok (.aload 4, 2) := by decide +kernel
theorem dX3_getInt_29 : decode cX3_getInt 29 = .ok (.getfield 120, 3) := by decide +kernel
theorem dX3_getInt_32 : decode cX3_getInt 32 = .ok (.ireturn, 1) := by decide +kernel
theorem dX3_getReference_0 : decode cX3_getReference 0 = .ok (.aload_n 0, 1) := by decide +kernel
theorem dX3_getReference_1 : decode cX3_getReference 1 = .ok (.iload_n 1, 1) := by decide +kernel
theorem dX3_getReference_2 : decode cX3_getReference 2 = .ok (.iload_n 2, 1) := by decide +kernel
theorem dX3_getReference_3 : decode cX3_getReference 3 = .ok (.iload_n 3, 1) := by decide +kernel
theorem dX3_getReference_4 : decode cX3_getReference 4 = .ok (.invokevirtual 107, 3) := by decide +kernel
theorem dX3_getReference_7 : decode cX3_getReference 7 = .ok (.astore 4, 2) := by decide +kernel
theorem dX3_getReference_9 : decode cX3_getReference 9 = .ok (.aload 4, 2) := by decide +kernel
theorem dX3_getReference_11 : decode cX3_getReference 11 = .ok (.getfield 111, 3) := by decide +kernel
theorem dX3_getReference_14 : decode cX3_getReference 14 = .ok (.ifCond .ne 13, 3) := by decide +kernel
theorem dX3_getReference_17 : decode cX3_getReference 17 = .ok (.new 115, 3) := by decide +kernel
theorem dX3_getReference_20 : decode cX3_getReference 20 = .ok (.dup, 1) := by decide +kernel
theorem dX3_getReference_21 : decode cX3_getReference 21 = .ok (.ldc 121, 2) := by decide +kernel
theorem dX3_getReference_23 : decode cX3_getReference 23 = .ok (.invokespecial 119, 3) := by decide +kernel
theorem dX3_getReference_26 : decode cX3_getReference 26 = .ok (.athrow, 1) := by decide +kernel
theorem dX3_getReference_27 : decode cX3_getReference 27 = .ok (.aload 4, 2) := by decide +kernel
theorem dX3_getReference_29 : decode cX3_getReference 29 = .ok (.getfield 123, 3) := by decide +kernel
theorem dX3_getReference_32 : decode cX3_getReference 32 = .ok (.invokestatic 127, 3) := by decide +kernel
theorem dX3_getReference_35 : decode cX3_getReference 35 = .ok (.ireturn, 1) := by decide +kernel
theorem dX3_getRoot_0 : decode cX3_getRoot 0 = .ok (.aload_n 0, 1) := by decide +kernel
theorem dX3_getRoot_1 : decode cX3_getRoot 1 = .ok (.iload_n 1, 1) := by decide +kernel
theorem dX3_getRoot_2 : decode cX3_getRoot 2 = .ok (.invokevirtual 46, 3) := by decide +kernel
theorem dX3_getRoot_5 : decode cX3_getRoot 5 = .ok (.astore_n 3, 1) := by decide +kernel
theorem dX3_getRoot_6 : decode cX3_getRoot 6 = .ok (.aload_n 0, 1) := by decide +kernel
theorem dX3_getRoot_7 : decode cX3_getRoot 7 = .ok (.iload_n 2, 1) := by decide +kernel
theorem dX3_getRoot_8 : decode cX3_getRoot 8 = .ok (.invokevirtual 100, 3) := by decide +kernel
theorem dX3_getRoot_11 : decode cX3_getRoot 11 = .ok (.astore 4, 2) := by decide +kernel
theorem dX3_getRoot_13 : decode cX3_getRoot 13 = .ok (.aload 4, 2) := by decide +kernel
theorem dX3_getRoot_15 : decode cX3_getRoot 15 = .ok (.aload_n 3, 1) := by decide +kernel
theorem dX3_getRoot_16 : decode cX3_getRoot 16 = .ok (.invokestatic 86, 3) := by decide +kernel
theorem dX3_getRoot_19 : decode cX3_getRoot 19 = .ok (.aload 4, 2) := by decide +kernel
theorem dX3_getRoot_21 : decode cX3_getRoot 21 = .ok (.aload_n 3, 1) := by decide +kernel
theorem dX3_getRoot_22 : decode cX3_getRoot 22 = .ok (.getfield 43, 3) := by decide +kernel
theorem dX3_getRoot_25 : decode cX3_getRoot 25 = .ok (.putfield 71, 3) := by decide +kernel
theorem dX3_getRoot_28 : decode cX3_getRoot 28 = .ok (.aload 4, 2) := by decide +kernel
theorem dX3_getRoot_30 : decode cX3_getRoot 30 = .ok (.getfield 103, 3) := by decide +kernel
theorem dX3_getRoot_33 : decode cX3_getRoot 33 = .ok (.iconst 0, 1) := by decide +kernel
theorem dX3_getRoot_34 : decode cX3_getRoot 34 = .ok (.aaload, 1) := by decide +kernel
theorem dX3_getRoot_35 : decode cX3_getRoot 35 = .ok (.getfield 123, 3) := by decide +kernel
theorem dX3_getRoot_38 : decode cX3_getRoot 38 = .ok (.invokestatic 127, 3) := by decide +kernel
theorem dX3_getRoot_41 : decode cX3_getRoot 41 = .ok (.ireturn, 1) := by decide +kernel
theorem dX3_commit_0 : decode cX3_commit 0 = .ok (.aload_n 0, 1) := by decide +kernel
theorem dX3_commit_1 : decode cX3_commit 1 = .ok (.iload_n 1, 1) := by decide +kernel
theorem dX3_commit_2 : decode cX3_commit 2 = .ok (.invokevirtual 46, 3) := by decide +kernel
theorem dX3_commit_5 : decode cX3_commit 5 = .ok (.astore_n 2, 1) := by decide +kernel
theorem dX3_commit_6 : decode cX3_commit 6 = .ok (.aload_n 0, 1) := by decide +kernel
theorem dX3_commit_7 : decode cX3_commit 7 = .ok (.aload_n 2, 1) := by decide +kernel
theorem dX3_commit_8 : decode cX3_commit 8 = .ok (.iconst 1, 1) := by decide +kernel
theorem dX3_commit_9 : decode cX3_commit 9 = .ok (.invokevirtual 35, 3) := by decide +kernel
theorem dX3_commit_12 : decode cX3_commit 12 = .ok (.aload_n 0, 1) := by decide +kernel
theorem dX3_commit_13 : decode cX3_commit 13 = .ok (.dup, 1) := by decide +kernel
theorem dX3_commit_14 : decode cX3_commit 14 = .ok (.getfield 131, 3) := by decide +kernel
theorem dX3_commit_17 : decode cX3_commit 17 = .ok (.aload_n 2, 1) := by decide +kernel
theorem dX3_commit_18 : decode cX3_commit 18 = .ok (.getfield 134, 3) := by decide +kernel
theorem dX3_commit_21 : decode cX3_commit 21 = .ok (.iadd, 1) := by decide +kernel
theorem dX3_commit_22 : decode cX3_commit 22 = .ok (.putfield 131, 3) := by decide +kernel
theorem dX3_commit_25 : decode cX3_commit 25 = .ok (.aload_n 0, 1) := by decide +kernel
theorem dX3_commit_26 : decode cX3_commit 26 = .ok (.aload_n 2, 1) := by decide +kernel
theorem dX3_commit_27 : decode cX3_commit 27 = .ok (.iconst 1, 1) := by decide +kernel
theorem dX3_commit_28 : decode cX3_commit 28 = .ok (.invokevirtual 136, 3) := by decide +kernel
theorem dX3_commit_31 : decode cX3_commit 31 = .ok (.ireturn, 1) := by decide +kernel
theorem dX3_abort_0 : decode cX3_abort 0 = .ok (.aload_n 0, 1) := by decide +kernel
theorem dX3_abort_1 : decode cX3_abort 1 = .ok (.aload_n 0, 1) := by decide +kernel
theorem dX3_abort_2 : decode cX3_abort 2 = .ok (.iload_n 1, 1) := by decide +kernel
theorem dX3_abort_3 : decode cX3_abort 3 = .ok (.invokevirtual 46, 3) := by decide +kernel
theorem dX3_abort_6 : decode cX3_abort 6 = .ok (.iconst 0, 1) := by decide +kernel
theorem dX3_abort_7 : decode cX3_abort 7 = .ok (.invokevirtual 136, 3) := by decide +kernel
theorem dX3_abort_10 : decode cX3_abort 10 = .ok (.ireturn, 1) := by decide +kernel
theorem dX3_checkpoint_0 : decode cX3_checkpoint 0 = .ok (.aload_n 0, 1) := by decide +kernel
theorem dX3_checkpoint_1 : decode cX3_checkpoint 1 = .ok (.iconst 0, 1) := by decide +kernel
theorem dX3_checkpoint_2 : decode cX3_checkpoint 2 = .ok (.putfield 131, 3) := by decide +kernel
theorem dX3_checkpoint_5 : decode cX3_checkpoint 5 = .ok (.aload_n 0, 1) := by decide +kernel
theorem dX3_checkpoint_6 : decode cX3_checkpoint 6 = .ok (.invokevirtual 140, 3) := by decide +kernel
theorem dX3_checkpoint_9 : decode cX3_checkpoint 9 = .ok (.ireturn, 1) := by decide +kernel
theorem dX3_crash_0 : decode cX3_crash 0 = .ok (.iconst 0, 1) := by decide +kernel
theorem dX3_crash_1 : decode cX3_crash 1 = .ok (.istore_n 1, 1) := by decide +kernel
theorem dX3_crash_2 : decode cX3_crash 2 = .ok (.iconst 0, 1) := by decide +kernel
theorem dX3_crash_3 : decode cX3_crash 3 = .ok (.istore_n 2, 1) := by decide +kernel
theorem dX3_crash_4 : decode cX3_crash 4 = .ok (.iload_n 2, 1) := by decide +kernel
theorem dX3_crash_5 : decode cX3_crash 5 = .ok (.iconst 3, 1) := by decide +kernel
theorem dX3_crash_6 : decode cX3_crash 6 = .ok (.if_icmp .ge 36, 3) := by decide +kernel
theorem dX3_crash_9 : decode cX3_crash 9 = .ok (.aload_n 0, 1) := by decide +kernel
theorem dX3_crash_10 : decode cX3_crash 10 = .ok (.getfield 26, 3) := by decide +kernel
theorem dX3_crash_13 : decode cX3_crash 13 = .ok (.iload_n 2, 1) := by decide +kernel
theorem dX3_crash_14 : decode cX3_crash 14 = .ok (.aaload, 1) := by decide +kernel
theorem dX3_crash_15 : decode cX3_crash 15 = .ok (.invokevirtual 143, 3) := by decide +kernel
theorem dX3_crash_18 : decode cX3_crash 18 = .ok (.ifCond .eq 18, 3) := by decide +kernel
theorem dX3_crash_21 : decode cX3_crash 21 = .ok (.aload_n 0, 1) := by decide +kernel
theorem dX3_crash_22 : decode cX3_crash 22 = .ok (.aload_n 0, 1) := by decide +kernel
theorem dX3_crash_23 : decode cX3_crash 23 = .ok (.getfield 26, 3) := by decide +kernel
theorem dX3_crash_26 : decode cX3_crash 26 = .ok (.iload_n 2, 1) := by decide +kernel
theorem dX3_crash_27 : decode cX3_crash 27 = .ok (.aaload, 1) := by decide +kernel
theorem dX3_crash_28 : decode cX3_crash 28 = .ok (.iconst 0, 1) := by decide +kernel
theorem dX3_crash_29 : decode cX3_crash 29 = .ok (.invokevirtual 136, 3) := by decide +kernel
theorem dX3_crash_32 : decode cX3_crash 32 = .ok (.pop, 1) := by decide +kernel
theorem dX3_crash_33 : decode cX3_crash 33 = .ok (.iinc 1 1, 3) := by decide +kernel
theorem dX3_crash_36 : decode cX3_crash 36 = .ok (.iinc 2 1, 3) := by decide +kernel
theorem dX3_crash_39 : decode cX3_crash 39 = .ok (.goto (-35), 3) := by decide +kernel
theorem dX3_crash_42 : decode cX3_crash 42 = .ok (.aload_n 0, 1) := by decide +kernel
theorem dX3_crash_43 : decode cX3_crash 43 = .ok (.iconst 0, 1) := by decide +kernel
theorem dX3_crash_44 : decode cX3_crash 44 = .ok (.putfield 131, 3) := by decide +kernel
theorem dX3_crash_47 : decode cX3_crash 47 = .ok (.iload_n 1, 1) := by decide +kernel
theorem dX3_crash_48 : decode cX3_crash 48 = .ok (.ireturn, 1) := by decide +kernel
theorem dX3_collect_0 : decode cX3_collect 0 = .ok (.aload_n 0, 1) := by decide +kernel
theorem dX3_collect_1 : decode cX3_collect 1 = .ok (.invokevirtual 147, 3) := by decide +kernel
theorem dX3_collect_4 : decode cX3_collect 4 = .ok (.iload_n 1, 1) := by decide +kernel
theorem dX3_collect_5 : decode cX3_collect 5 = .ok (.ifCond .lt 18, 3) := by decide +kernel
theorem dX3_collect_8 : decode cX3_collect 8 = .ok (.iload_n 1, 1) := by decide +kernel
theorem dX3_collect_9 : decode cX3_collect 9 = .ok (.aload_n 0, 1) := by decide +kernel
theorem dX3_collect_10 : decode cX3_collect 10 = .ok (.getfield 150, 3) := by decide +kernel
theorem dX3_collect_13 : decode cX3_collect 13 = .ok (.if_icmp .ge 10, 3) := by decide +kernel
theorem dX3_collect_16 : decode cX3_collect 16 = .ok (.iconst (-1), 1) := by decide +kernel
theorem dX3_collect_17 : decode cX3_collect 17 = .ok (.aload_n 0, 1) := by decide +kernel
theorem dX3_collect_18 : decode cX3_collect 18 = .ok (.invokevirtual 153, 3) := by decide +kernel
theorem dX3_collect_21 : decode cX3_collect 21 = .ok (.isub, 1) := by decide +kernel
theorem dX3_collect_22 : decode cX3_collect 22 = .ok (.ireturn, 1) := by decide +kernel
theorem dX3_collect_23 : decode cX3_collect 23 = .ok (.aload_n 0, 1) := by decide +kernel
theorem dX3_collect_24 : decode cX3_collect 24 = .ok (.getfield 57, 3) := by decide +kernel
theorem dX3_collect_27 : decode cX3_collect 27 = .ok (.istore_n 2, 1) := by decide +kernel
theorem dX3_collect_28 : decode cX3_collect 28 = .ok (.aload_n 0, 1) := by decide +kernel
theorem dX3_collect_29 : decode cX3_collect 29 = .ok (.invokevirtual 156, 3) := by decide +kernel
theorem dX3_collect_32 : decode cX3_collect 32 = .ok (.aload_n 0, 1) := by decide +kernel
theorem dX3_collect_33 : decode cX3_collect 33 = .ok (.invokevirtual 159, 3) := by decide +kernel
theorem dX3_collect_36 : decode cX3_collect 36 = .ok (.pop, 1) := by decide +kernel
theorem dX3_collect_37 : decode cX3_collect 37 = .ok (.iload_n 2, 1) := by decide +kernel
theorem dX3_collect_38 : decode cX3_collect 38 = .ok (.aload_n 0, 1) := by decide +kernel
theorem dX3_collect_39 : decode cX3_collect 39 = .ok (.getfield 57, 3) := by decide +kernel
theorem dX3_collect_42 : decode cX3_collect 42 = .ok (.isub, 1) := by decide +kernel
theorem dX3_collect_43 : decode cX3_collect 43 = .ok (.ireturn, 1) := by decide +kernel
theorem dX3_fields_0 : decode cX3_fields 0 = .ok (.aload_n 0, 1) := by decide +kernel
theorem dX3_fields_1 : decode cX3_fields 1 = .ok (.iload_n 1, 1) := by decide +kernel
theorem dX3_fields_2 : decode cX3_fields 2 = .ok (.invokevirtual 78, 3) := by decide +kernel
theorem dX3_fields_5 : decode cX3_fields 5 = .ok (.getfield 103, 3) := by decide +kernel
theorem dX3_fields_8 : decode cX3_fields 8 = .ok (.arraylength, 1) := by decide +kernel
theorem dX3_fields_9 : decode cX3_fields 9 = .ok (.ireturn, 1) := by decide +kernel
theorem dX3_lockedBy_0 : decode cX3_lockedBy 0 = .ok (.iload_n 1, 1) := by decide +kernel
theorem dX3_lockedBy_1 : decode cX3_lockedBy 1 = .ok (.ifCond .eq 12, 3) := by decide +kernel
theorem dX3_lockedBy_4 : decode cX3_lockedBy 4 = .ok (.aload_n 0, 1) := by decide +kernel
theorem dX3_lockedBy_5 : decode cX3_lockedBy 5 = .ok (.iload_n 1, 1) := by decide +kernel
theorem dX3_lockedBy_6 : decode cX3_lockedBy 6 = .ok (.invokevirtual 78, 3) := by decide +kernel
theorem dX3_lockedBy_9 : decode cX3_lockedBy 9 = .ok (.getfield 71, 3) := by decide +kernel
theorem dX3_lockedBy_12 : decode cX3_lockedBy 12 = .ok (.ireturn, 1) := by decide +kernel
theorem dX3_lockedBy_13 : decode cX3_lockedBy 13 = .ok (.iload_n 2, 1) := by decide +kernel
theorem dX3_lockedBy_14 : decode cX3_lockedBy 14 = .ok (.ifCond .lt 8, 3) := by decide +kernel
theorem dX3_lockedBy_17 : decode cX3_lockedBy 17 = .ok (.iload_n 2, 1) := by decide +kernel
theorem dX3_lockedBy_18 : decode cX3_lockedBy 18 = .ok (.iconst 4, 1) := by decide +kernel
theorem dX3_lockedBy_19 : decode cX3_lockedBy 19 = .ok (.if_icmp .lt 13, 3) := by decide +kernel
theorem dX3_lockedBy_22 : decode cX3_lockedBy 22 = .ok (.new 162, 3) := by decide +kernel
theorem dX3_lockedBy_25 : decode cX3_lockedBy 25 = .ok (.dup, 1) := by decide +kernel
theorem dX3_lockedBy_26 : decode cX3_lockedBy 26 = .ok (.ldc 164, 2) := by decide +kernel
theorem dX3_lockedBy_28 : decode cX3_lockedBy 28 = .ok (.invokespecial 166, 3) := by decide +kernel
theorem dX3_lockedBy_31 : decode cX3_lockedBy 31 = .ok (.athrow, 1) := by decide +kernel
theorem dX3_lockedBy_32 : decode cX3_lockedBy 32 = .ok (.aload_n 0, 1) := by decide +kernel
theorem dX3_lockedBy_33 : decode cX3_lockedBy 33 = .ok (.getfield 11, 3) := by decide +kernel
theorem dX3_lockedBy_36 : decode cX3_lockedBy 36 = .ok (.iload_n 2, 1) := by decide +kernel
theorem dX3_lockedBy_37 : decode cX3_lockedBy 37 = .ok (.aaload, 1) := by decide +kernel
theorem dX3_lockedBy_38 : decode cX3_lockedBy 38 = .ok (.getfield 71, 3) := by decide +kernel
theorem dX3_lockedBy_41 : decode cX3_lockedBy 41 = .ok (.ireturn, 1) := by decide +kernel
theorem dX3_count_0 : decode cX3_count 0 = .ok (.iload_n 1, 1) := by decide +kernel
theorem dX3_count_1 : decode cX3_count 1 = .ok (.tableswitch 91 0 7 #[47, 52, 57, 62, 67, 72, 77, 82], 47) := by decide +kernel
theorem dX3_count_48 : decode cX3_count 48 = .ok (.aload_n 0, 1) := by decide +kernel
theorem dX3_count_49 : decode cX3_count 49 = .ok (.getfield 60, 3) := by decide +kernel
theorem dX3_count_52 : decode cX3_count 52 = .ok (.ireturn, 1) := by decide +kernel
theorem dX3_count_53 : decode cX3_count 53 = .ok (.aload_n 0, 1) := by decide +kernel
theorem dX3_count_54 : decode cX3_count 54 = .ok (.getfield 68, 3) := by decide +kernel
theorem dX3_count_57 : decode cX3_count 57 = .ok (.ireturn, 1) := by decide +kernel
theorem dX3_count_58 : decode cX3_count 58 = .ok (.aload_n 0, 1) := by decide +kernel
theorem dX3_count_59 : decode cX3_count 59 = .ok (.getfield 57, 3) := by decide +kernel
theorem dX3_count_62 : decode cX3_count 62 = .ok (.ireturn, 1) := by decide +kernel
theorem dX3_count_63 : decode cX3_count 63 = .ok (.aload_n 0, 1) := by decide +kernel
theorem dX3_count_64 : decode cX3_count 64 = .ok (.invokevirtual 140, 3) := by decide +kernel
theorem dX3_count_67 : decode cX3_count 67 = .ok (.ireturn, 1) := by decide +kernel
theorem dX3_count_68 : decode cX3_count 68 = .ok (.aload_n 0, 1) := by decide +kernel
theorem dX3_count_69 : decode cX3_count 69 = .ok (.invokevirtual 167, 3) := by decide +kernel
theorem dX3_count_72 : decode cX3_count 72 = .ok (.ireturn, 1) := by decide +kernel
theorem dX3_count_73 : decode cX3_count 73 = .ok (.aload_n 0, 1) := by decide +kernel
theorem dX3_count_74 : decode cX3_count 74 = .ok (.getfield 39, 3) := by decide +kernel
theorem dX3_count_77 : decode cX3_count 77 = .ok (.ireturn, 1) := by decide +kernel
theorem dX3_count_78 : decode cX3_count 78 = .ok (.aload_n 0, 1) := by decide +kernel
theorem dX3_count_79 : decode cX3_count 79 = .ok (.getfield 170, 3) := by decide +kernel
theorem dX3_count_82 : decode cX3_count 82 = .ok (.ireturn, 1) := by decide +kernel
theorem dX3_count_83 : decode cX3_count 83 = .ok (.aload_n 0, 1) := by decide +kernel
theorem dX3_count_84 : decode cX3_count 84 = .ok (.invokevirtual 147, 3) := by decide +kernel
theorem dX3_count_87 : decode cX3_count 87 = .ok (.aload_n 0, 1) := by decide +kernel
theorem dX3_count_88 : decode cX3_count 88 = .ok (.getfield 150, 3) := by decide +kernel
theorem dX3_count_91 : decode cX3_count 91 = .ok (.ireturn, 1) := by decide +kernel
theorem dX3_count_92 : decode cX3_count 92 = .ok (.new 50, 3) := by decide +kernel
theorem dX3_count_95 : decode cX3_count 95 = .ok (.dup, 1) := by decide +kernel
theorem dX3_count_96 : decode cX3_count 96 = .ok (.ldc 173, 2) := by decide +kernel
theorem dX3_count_98 : decode cX3_count 98 = .ok (.invokespecial 54, 3) := by decide +kernel
theorem dX3_count_101 : decode cX3_count 101 = .ok (.athrow, 1) := by decide +kernel
theorem dX3_unusedTransaction_0 : decode cX3_unusedTransaction 0 = .ok (.iconst 0, 1) := by decide +kernel
theorem dX3_unusedTransaction_1 : decode cX3_unusedTransaction 1 = .ok (.istore_n 1, 1) := by decide +kernel
theorem dX3_unusedTransaction_2 : decode cX3_unusedTransaction 2 = .ok (.iload_n 1, 1) := by decide +kernel
theorem dX3_unusedTransaction_3 : decode cX3_unusedTransaction 3 = .ok (.iconst 3, 1) := by decide +kernel
theorem dX3_unusedTransaction_4 : decode cX3_unusedTransaction 4 = .ok (.if_icmp .ge 28, 3) := by decide +kernel
theorem dX3_unusedTransaction_7 : decode cX3_unusedTransaction 7 = .ok (.aload_n 0, 1) := by decide +kernel
theorem dX3_unusedTransaction_8 : decode cX3_unusedTransaction 8 = .ok (.getfield 26, 3) := by decide +kernel
theorem dX3_unusedTransaction_11 : decode cX3_unusedTransaction 11 = .ok (.iload_n 1, 1) := by decide +kernel
theorem dX3_unusedTransaction_12 : decode cX3_unusedTransaction 12 = .ok (.aaload, 1) := by decide +kernel
theorem dX3_unusedTransaction_13 : decode cX3_unusedTransaction 13 = .ok (.invokevirtual 143, 3) := by decide +kernel
theorem dX3_unusedTransaction_16 : decode cX3_unusedTransaction 16 = .ok (.ifCond .ne 10, 3) := by decide +kernel
theorem dX3_unusedTransaction_19 : decode cX3_unusedTransaction 19 = .ok (.aload_n 0, 1) := by decide +kernel
theorem dX3_unusedTransaction_20 : decode cX3_unusedTransaction 20 = .ok (.getfield 26, 3) := by decide +kernel
theorem dX3_unusedTransaction_23 : decode cX3_unusedTransaction 23 = .ok (.iload_n 1, 1) := by decide +kernel
theorem dX3_unusedTransaction_24 : decode cX3_unusedTransaction 24 = .ok (.aaload, 1) := by decide +kernel
theorem dX3_unusedTransaction_25 : decode cX3_unusedTransaction 25 = .ok (.areturn, 1) := by decide +kernel
theorem dX3_unusedTransaction_26 : decode cX3_unusedTransaction 26 = .ok (.iinc 1 1, 3) := by decide +kernel
theorem dX3_unusedTransaction_29 : decode cX3_unusedTransaction 29 = .ok (.goto (-27), 3) := by decide +kernel
theorem dX3_unusedTransaction_32 : decode cX3_unusedTransaction 32 = .ok (.new 63, 3) := by decide +kernel
theorem dX3_unusedTransaction_35 : decode cX3_unusedTransaction 35 = .ok (.dup, 1) := by decide +kernel
theorem dX3_unusedTransaction_36 : decode cX3_unusedTransaction 36 = .ok (.ldc 175, 2) := by decide +kernel
theorem dX3_unusedTransaction_38 : decode cX3_unusedTransaction 38 = .ok (.invokespecial 67, 3) := by decide +kernel
theorem dX3_unusedTransaction_41 : decode cX3_unusedTransaction 41 = .ok (.athrow, 1) := by decide +kernel
theorem dX3_activeTransaction_0 : decode cX3_activeTransaction 0 = .ok (.iconst 0, 1) := by decide +kernel
theorem dX3_activeTransaction_1 : decode cX3_activeTransaction 1 = .ok (.istore_n 2, 1) := by decide +kernel
theorem dX3_activeTransaction_2 : decode cX3_activeTransaction 2 = .ok (.iload_n 2, 1) := by decide +kernel
theorem dX3_activeTransaction_3 : decode cX3_activeTransaction 3 = .ok (.iconst 3, 1) := by decide +kernel
theorem dX3_activeTransaction_4 : decode cX3_activeTransaction 4 = .ok (.if_icmp .ge 41, 3) := by decide +kernel
theorem dX3_activeTransaction_7 : decode cX3_activeTransaction 7 = .ok (.aload_n 0, 1) := by decide +kernel
theorem dX3_activeTransaction_8 : decode cX3_activeTransaction 8 = .ok (.getfield 26, 3) := by decide +kernel
theorem dX3_activeTransaction_11 : decode cX3_activeTransaction 11 = .ok (.iload_n 2, 1) := by decide +kernel
theorem dX3_activeTransaction_12 : decode cX3_activeTransaction 12 = .ok (.aaload, 1) := by decide +kernel
theorem dX3_activeTransaction_13 : decode cX3_activeTransaction 13 = .ok (.invokevirtual 143, 3) := by decide +kernel
theorem dX3_activeTransaction_16 : decode cX3_activeTransaction 16 = .ok (.ifCond .eq 23, 3) := by decide +kernel
theorem dX3_activeTransaction_19 : decode cX3_activeTransaction 19 = .ok (.aload_n 0, 1) := by decide +kernel
theorem dX3_activeTransaction_20 : decode cX3_activeTransaction 20 = .ok (.getfield 26, 3) := by decide +kernel
theorem dX3_activeTransaction_23 : decode cX3_activeTransaction 23 = .ok (.iload_n 2, 1) := by decide +kernel
theorem dX3_activeTransaction_24 : decode cX3_activeTransaction 24 = .ok (.aaload, 1) := by decide +kernel
theorem dX3_activeTransaction_25 : decode cX3_activeTransaction 25 = .ok (.getfield 43, 3) := by decide +kernel
theorem dX3_activeTransaction_28 : decode cX3_activeTransaction 28 = .ok (.iload_n 1, 1) := by decide +kernel
theorem dX3_activeTransaction_29 : decode cX3_activeTransaction 29 = .ok (.if_icmp .ne 10, 3) := by decide +kernel
theorem dX3_activeTransaction_32 : decode cX3_activeTransaction 32 = .ok (.aload_n 0, 1) := by decide +kernel
theorem dX3_activeTransaction_33 : decode cX3_activeTransaction 33 = .ok (.getfield 26, 3) := by decide +kernel
theorem dX3_activeTransaction_36 : decode cX3_activeTransaction 36 = .ok (.iload_n 2, 1) := by decide +kernel
theorem dX3_activeTransaction_37 : decode cX3_activeTransaction 37 = .ok (.aaload, 1) := by decide +kernel
theorem dX3_activeTransaction_38 : decode cX3_activeTransaction 38 = .ok (.areturn, 1) := by decide +kernel
theorem dX3_activeTransaction_39 : decode cX3_activeTransaction 39 = .ok (.iinc 2 1, 3) := by decide +kernel
theorem dX3_activeTransaction_42 : decode cX3_activeTransaction 42 = .ok (.goto (-40), 3) := by decide +kernel
theorem dX3_activeTransaction_45 : decode cX3_activeTransaction 45 = .ok (.new 162, 3) := by decide +kernel
theorem dX3_activeTransaction_48 : decode cX3_activeTransaction 48 = .ok (.dup, 1) := by decide +kernel
theorem dX3_activeTransaction_49 : decode cX3_activeTransaction 49 = .ok (.ldc 177, 2) := by decide +kernel
theorem dX3_activeTransaction_51 : decode cX3_activeTransaction 51 = .ok (.invokespecial 166, 3) := by decide +kernel
theorem dX3_activeTransaction_54 : decode cX3_activeTransaction 54 = .ok (.athrow, 1) := by decide +kernel
theorem dX3_activeTransactions_0 : decode cX3_activeTransactions 0 = .ok (.iconst 0, 1) := by decide +kernel
theorem dX3_activeTransactions_1 : decode cX3_activeTransactions 1 = .ok (.istore_n 1, 1) := by decide +kernel
theorem dX3_activeTransactions_2 : decode cX3_activeTransactions 2 = .ok (.iconst 0, 1) := by decide +kernel
theorem dX3_activeTransactions_3 : decode cX3_activeTransactions 3 = .ok (.istore_n 2, 1) := by decide +kernel
theorem dX3_activeTransactions_4 : decode cX3_activeTransactions 4 = .ok (.iload_n 2, 1) := by decide +kernel
theorem dX3_activeTransactions_5 : decode cX3_activeTransactions 5 = .ok (.iconst 3, 1) := by decide +kernel
theorem dX3_activeTransactions_6 : decode cX3_activeTransactions 6 = .ok (.if_icmp .ge 24, 3) := by decide +kernel
theorem dX3_activeTransactions_9 : decode cX3_activeTransactions 9 = .ok (.aload_n 0, 1) := by decide +kernel
theorem dX3_activeTransactions_10 : decode cX3_activeTransactions 10 = .ok (.getfield 26, 3) := by decide +kernel
theorem dX3_activeTransactions_13 : decode cX3_activeTransactions 13 = .ok (.iload_n 2, 1) := by decide +kernel
theorem dX3_activeTransactions_14 : decode cX3_activeTransactions 14 = .ok (.aaload, 1) := by decide +kernel
theorem dX3_activeTransactions_15 : decode cX3_activeTransactions 15 = .ok (.invokevirtual 143, 3) := by decide +kernel
theorem dX3_activeTransactions_18 : decode cX3_activeTransactions 18 = .ok (.ifCond .eq 6, 3) := by decide +kernel
theorem dX3_activeTransactions_21 : decode cX3_activeTransactions 21 = .ok (.iinc 1 1, 3) := by decide +kernel
theorem dX3_activeTransactions_24 : decode cX3_activeTransactions 24 = .ok (.iinc 2 1, 3) := by decide +kernel
theorem dX3_activeTransactions_27 : decode cX3_activeTransactions 27 = .ok (.goto (-23), 3) := by decide +kernel
theorem dX3_activeTransactions_30 : decode cX3_activeTransactions 30 = .ok (.iload_n 1, 1) := by decide +kernel
theorem dX3_activeTransactions_31 : decode cX3_activeTransactions 31 = .ok (.ireturn, 1) := by decide +kernel
theorem dX3_objectWith_0 : decode cX3_objectWith 0 = .ok (.aload_n 0, 1) := by decide +kernel
theorem dX3_objectWith_1 : decode cX3_objectWith 1 = .ok (.iload_n 1, 1) := by decide +kernel
theorem dX3_objectWith_2 : decode cX3_objectWith 2 = .ok (.invokevirtual 179, 3) := by decide +kernel
theorem dX3_objectWith_5 : decode cX3_objectWith 5 = .ok (.astore_n 2, 1) := by decide +kernel
theorem dX3_objectWith_6 : decode cX3_objectWith 6 = .ok (.aload_n 2, 1) := by decide +kernel
theorem dX3_objectWith_7 : decode cX3_objectWith 7 = .ok (.ifnonnull 13, 3) := by decide +kernel
theorem dX3_objectWith_10 : decode cX3_objectWith 10 = .ok (.new 162, 3) := by decide +kernel
theorem dX3_objectWith_13 : decode cX3_objectWith 13 = .ok (.dup, 1) := by decide +kernel
theorem dX3_objectWith_14 : decode cX3_objectWith 14 = .ok (.ldc 182, 2) := by decide +kernel
theorem dX3_objectWith_16 : decode cX3_objectWith 16 = .ok (.invokespecial 166, 3) := by decide +kernel
theorem dX3_objectWith_19 : decode cX3_objectWith 19 = .ok (.athrow, 1) := by decide +kernel
theorem dX3_objectWith_20 : decode cX3_objectWith 20 = .ok (.aload_n 2, 1) := by decide +kernel
theorem dX3_objectWith_21 : decode cX3_objectWith 21 = .ok (.areturn, 1) := by decide +kernel
theorem dX3_findObject_0 : decode cX3_findObject 0 = .ok (.iconst 0, 1) := by decide +kernel
theorem dX3_findObject_1 : decode cX3_findObject 1 = .ok (.istore_n 2, 1) := by decide +kernel
theorem dX3_findObject_2 : decode cX3_findObject 2 = .ok (.iload_n 2, 1) := by decide +kernel
theorem dX3_findObject_3 : decode cX3_findObject 3 = .ok (.aload_n 0, 1) := by decide +kernel
theorem dX3_findObject_4 : decode cX3_findObject 4 = .ok (.getfield 60, 3) := by decide +kernel
theorem dX3_findObject_7 : decode cX3_findObject 7 = .ok (.if_icmp .ge 29, 3) := by decide +kernel
theorem dX3_findObject_10 : decode cX3_findObject 10 = .ok (.aload_n 0, 1) := by decide +kernel
theorem dX3_findObject_11 : decode cX3_findObject 11 = .ok (.getfield 18, 3) := by decide +kernel
theorem dX3_findObject_14 : decode cX3_findObject 14 = .ok (.iload_n 2, 1) := by decide +kernel
theorem dX3_findObject_15 : decode cX3_findObject 15 = .ok (.aaload, 1) := by decide +kernel
theorem dX3_findObject_16 : decode cX3_findObject 16 = .ok (.getfield 184, 3) := by decide +kernel
theorem dX3_findObject_19 : decode cX3_findObject 19 = .ok (.iload_n 1, 1) := by decide +kernel
theorem dX3_findObject_20 : decode cX3_findObject 20 = .ok (.if_icmp .ne 10, 3) := by decide +kernel
theorem dX3_findObject_23 : decode cX3_findObject 23 = .ok (.aload_n 0, 1) := by decide +kernel
theorem dX3_findObject_24 : decode cX3_findObject 24 = .ok (.getfield 18, 3) := by decide +kernel
theorem dX3_findObject_27 : decode cX3_findObject 27 = .ok (.iload_n 2, 1) := by decide +kernel
theorem dX3_findObject_28 : decode cX3_findObject 28 = .ok (.aaload, 1) := by decide +kernel
theorem dX3_findObject_29 : decode cX3_findObject 29 = .ok (.areturn, 1) := by decide +kernel
theorem dX3_findObject_30 : decode cX3_findObject 30 = .ok (.iinc 2 1, 3) := by decide +kernel
theorem dX3_findObject_33 : decode cX3_findObject 33 = .ok (.goto (-31), 3) := by decide +kernel
theorem dX3_findObject_36 : decode cX3_findObject 36 = .ok (.aconst_null, 1) := by decide +kernel
theorem dX3_findObject_37 : decode cX3_findObject 37 = .ok (.areturn, 1) := by decide +kernel
theorem dX3_fieldOf_0 : decode cX3_fieldOf 0 = .ok (.iload_n 1, 1) := by decide +kernel
theorem dX3_fieldOf_1 : decode cX3_fieldOf 1 = .ok (.ifCond .lt 12, 3) := by decide +kernel
theorem dX3_fieldOf_4 : decode cX3_fieldOf 4 = .ok (.iload_n 1, 1) := by decide +kernel
theorem dX3_fieldOf_5 : decode cX3_fieldOf 5 = .ok (.aload_n 0, 1) := by decide +kernel
theorem dX3_fieldOf_6 : decode cX3_fieldOf 6 = .ok (.getfield 103, 3) := by decide +kernel
theorem dX3_fieldOf_9 : decode cX3_fieldOf 9 = .ok (.arraylength, 1) := by decide +kernel
theorem dX3_fieldOf_10 : decode cX3_fieldOf 10 = .ok (.if_icmp .lt 13, 3) := by decide +kernel
theorem dX3_fieldOf_13 : decode cX3_fieldOf 13 = .ok (.new 187, 3) := by decide +kernel
theorem dX3_fieldOf_16 : decode cX3_fieldOf 16 = .ok (.dup, 1) := by decide +kernel
theorem dX3_fieldOf_17 : decode cX3_fieldOf 17 = .ok (.ldc 189, 2) := by decide +kernel
theorem dX3_fieldOf_19 : decode cX3_fieldOf 19 = .ok (.invokespecial 191, 3) := by decide +kernel
theorem dX3_fieldOf_22 : decode cX3_fieldOf 22 = .ok (.athrow, 1) := by decide +kernel
theorem dX3_fieldOf_23 : decode cX3_fieldOf 23 = .ok (.aload_n 0, 1) := by decide +kernel
theorem dX3_fieldOf_24 : decode cX3_fieldOf 24 = .ok (.getfield 103, 3) := by decide +kernel
theorem dX3_fieldOf_27 : decode cX3_fieldOf 27 = .ok (.iload_n 1, 1) := by decide +kernel
theorem dX3_fieldOf_28 : decode cX3_fieldOf 28 = .ok (.aaload, 1) := by decide +kernel
theorem dX3_fieldOf_29 : decode cX3_fieldOf 29 = .ok (.areturn, 1) := by decide +kernel
theorem dX3_rootAt_0 : decode cX3_rootAt 0 = .ok (.iload_n 1, 1) := by decide +kernel
theorem dX3_rootAt_1 : decode cX3_rootAt 1 = .ok (.ifCond .lt 8, 3) := by decide +kernel
theorem dX3_rootAt_4 : decode cX3_rootAt 4 = .ok (.iload_n 1, 1) := by decide +kernel
theorem dX3_rootAt_5 : decode cX3_rootAt 5 = .ok (.iconst 4, 1) := by decide +kernel
theorem dX3_rootAt_6 : decode cX3_rootAt 6 = .ok (.if_icmp .lt 13, 3) := by decide +kernel
theorem dX3_rootAt_9 : decode cX3_rootAt 9 = .ok (.new 187, 3) := by decide +kernel
theorem dX3_rootAt_12 : decode cX3_rootAt 12 = .ok (.dup, 1) := by decide +kernel
theorem dX3_rootAt_13 : decode cX3_rootAt 13 = .ok (.ldc 164, 2) := by decide +kernel
theorem dX3_rootAt_15 : decode cX3_rootAt 15 = .ok (.invokespecial 191, 3) := by decide +kernel
theorem dX3_rootAt_18 : decode cX3_rootAt 18 = .ok (.athrow, 1) := by decide +kernel
theorem dX3_rootAt_19 : decode cX3_rootAt 19 = .ok (.aload_n 0, 1) := by decide +kernel
theorem dX3_rootAt_20 : decode cX3_rootAt 20 = .ok (.getfield 11, 3) := by decide +kernel
theorem dX3_rootAt_23 : decode cX3_rootAt 23 = .ok (.iload_n 1, 1) := by decide +kernel
theorem dX3_rootAt_24 : decode cX3_rootAt 24 = .ok (.aaload, 1) := by decide +kernel
theorem dX3_rootAt_25 : decode cX3_rootAt 25 = .ok (.areturn, 1) := by decide +kernel
theorem dX3_handleOf_0 : decode cX3_handleOf 0 = .ok (.aload_n 0, 1) := by decide +kernel
theorem dX3_handleOf_1 : decode cX3_handleOf 1 = .ok (.ifnonnull 7, 3) := by decide +kernel
theorem dX3_handleOf_4 : decode cX3_handleOf 4 = .ok (.iconst 0, 1) := by decide +kernel
theorem dX3_handleOf_5 : decode cX3_handleOf 5 = .ok (.goto 7, 3) := by decide +kernel
theorem dX3_handleOf_8 : decode cX3_handleOf 8 = .ok (.aload_n 0, 1) := by decide +kernel
theorem dX3_handleOf_9 : decode cX3_handleOf 9 = .ok (.getfield 184, 3) := by decide +kernel
theorem dX3_handleOf_12 : decode cX3_handleOf 12 = .ok (.ireturn, 1) := by decide +kernel
theorem dX3_refuseIfLockedByAnother_0 : decode cX3_refuseIfLockedByAnother 0 = .ok (.aload_n 0, 1) := by decide +kernel
theorem dX3_refuseIfLockedByAnother_1 : decode cX3_refuseIfLockedByAnother 1 = .ok (.getfield 71, 3) := by decide +kernel
theorem dX3_refuseIfLockedByAnother_4 : decode cX3_refuseIfLockedByAnother 4 = .ok (.ifCond .eq 24, 3) := by decide +kernel
theorem dX3_refuseIfLockedByAnother_7 : decode cX3_refuseIfLockedByAnother 7 = .ok (.aload_n 0, 1) := by decide +kernel
theorem dX3_refuseIfLockedByAnother_8 : decode cX3_refuseIfLockedByAnother 8 = .ok (.getfield 71, 3) := by decide +kernel
theorem dX3_refuseIfLockedByAnother_11 : decode cX3_refuseIfLockedByAnother 11 = .ok (.aload_n 1, 1) := by decide +kernel
theorem dX3_refuseIfLockedByAnother_12 : decode cX3_refuseIfLockedByAnother 12 = .ok (.getfield 43, 3) := by decide +kernel
theorem dX3_refuseIfLockedByAnother_15 : decode cX3_refuseIfLockedByAnother 15 = .ok (.if_icmp .eq 13, 3) := by decide +kernel
theorem dX3_refuseIfLockedByAnother_18 : decode cX3_refuseIfLockedByAnother 18 = .ok (.new 63, 3) := by decide +kernel
theorem dX3_refuseIfLockedByAnother_21 : decode cX3_refuseIfLockedByAnother 21 = .ok (.dup, 1) := by decide +kernel
theorem dX3_refuseIfLockedByAnother_22 : decode cX3_refuseIfLockedByAnother 22 = .ok (.ldc 192, 2) := by decide +kernel
theorem dX3_refuseIfLockedByAnother_24 : decode cX3_refuseIfLockedByAnother 24 = .ok (.invokespecial 67, 3) := by decide +kernel
theorem dX3_refuseIfLockedByAnother_27 : decode cX3_refuseIfLockedByAnother 27 = .ok (.athrow, 1) := by decide +kernel
theorem dX3_refuseIfLockedByAnother_28 : decode cX3_refuseIfLockedByAnother 28 = .ok (.return_, 1) := by decide +kernel
theorem dX3_readField_0 : decode cX3_readField 0 = .ok (.aload_n 0, 1) := by decide +kernel
theorem dX3_readField_1 : decode cX3_readField 1 = .ok (.iload_n 1, 1) := by decide +kernel
theorem dX3_readField_2 : decode cX3_readField 2 = .ok (.invokevirtual 46, 3) := by decide +kernel
theorem dX3_readField_5 : decode cX3_readField 5 = .ok (.astore 4, 2) := by decide +kernel
theorem dX3_readField_7 : decode cX3_readField 7 = .ok (.aload_n 0, 1) := by decide +kernel
theorem dX3_readField_8 : decode cX3_readField 8 = .ok (.iload_n 2, 1) := by decide +kernel
theorem dX3_readField_9 : decode cX3_readField 9 = .ok (.invokevirtual 78, 3) := by decide +kernel
theorem dX3_readField_12 : decode cX3_readField 12 = .ok (.astore 5, 2) := by decide +kernel
theorem dX3_readField_14 : decode cX3_readField 14 = .ok (.aload 5, 2) := by decide +kernel
theorem dX3_readField_16 : decode cX3_readField 16 = .ok (.iload_n 3, 1) := by decide +kernel
theorem dX3_readField_17 : decode cX3_readField 17 = .ok (.invokestatic 82, 3) := by decide +kernel
theorem dX3_readField_20 : decode cX3_readField 20 = .ok (.astore 6, 2) := by decide +kernel
theorem dX3_readField_22 : decode cX3_readField 22 = .ok (.aload 5, 2) := by decide +kernel
theorem dX3_readField_24 : decode cX3_readField 24 = .ok (.aload 4, 2) := by decide +kernel
theorem dX3_readField_26 : decode cX3_readField 26 = .ok (.invokestatic 86, 3) := by decide +kernel
theorem dX3_readField_29 : decode cX3_readField 29 = .ok (.aload 5, 2) := by decide +kernel
theorem dX3_readField_31 : decode cX3_readField 31 = .ok (.aload 4, 2) := by decide +kernel
theorem dX3_readField_33 : decode cX3_readField 33 = .ok (.getfield 43, 3) := by decide +kernel
theorem dX3_readField_36 : decode cX3_readField 36 = .ok (.putfield 71, 3) := by decide +kernel
theorem dX3_readField_39 : decode cX3_readField 39 = .ok (.aload 6, 2) := by decide +kernel
theorem dX3_readField_41 : decode cX3_readField 41 = .ok (.areturn, 1) := by decide +kernel
theorem dX3_refer_0 : decode cX3_refer 0 = .ok (.aload_n 2, 1) := by decide +kernel
theorem dX3_refer_1 : decode cX3_refer 1 = .ok (.aload_n 1, 1) := by decide +kernel
theorem dX3_refer_2 : decode cX3_refer 2 = .ok (.invokestatic 86, 3) := by decide +kernel
theorem dX3_refer_5 : decode cX3_refer 5 = .ok (.aload_n 0, 1) := by decide +kernel
theorem dX3_refer_6 : decode cX3_refer 6 = .ok (.iload 4, 2) := by decide +kernel
theorem dX3_refer_8 : decode cX3_refer 8 = .ok (.invokevirtual 179, 3) := by decide +kernel
theorem dX3_refer_11 : decode cX3_refer 11 = .ok (.astore 5, 2) := by decide +kernel
theorem dX3_refer_13 : decode cX3_refer 13 = .ok (.iload 4, 2) := by decide +kernel
theorem dX3_refer_15 : decode cX3_refer 15 = .ok (.ifCond .eq 18, 3) := by decide +kernel
theorem dX3_refer_18 : decode cX3_refer 18 = .ok (.aload 5, 2) := by decide +kernel
theorem dX3_refer_20 : decode cX3_refer 20 = .ok (.ifnonnull 13, 3) := by decide +kernel
theorem dX3_refer_23 : decode cX3_refer 23 = .ok (.new 50, 3) := by decide +kernel
theorem dX3_refer_26 : decode cX3_refer 26 = .ok (.dup, 1) := by decide +kernel
theorem dX3_refer_27 : decode cX3_refer 27 = .ok (.ldc 194, 2) := by decide +kernel
theorem dX3_refer_29 : decode cX3_refer 29 = .ok (.invokespecial 54, 3) := by decide +kernel
theorem dX3_refer_32 : decode cX3_refer 32 = .ok (.athrow, 1) := by decide +kernel
theorem dX3_refer_33 : decode cX3_refer 33 = .ok (.aload_n 0, 1) := by decide +kernel
theorem dX3_refer_34 : decode cX3_refer 34 = .ok (.aload_n 1, 1) := by decide +kernel
theorem dX3_refer_35 : decode cX3_refer 35 = .ok (.iconst 3, 1) := by decide +kernel
theorem dX3_refer_36 : decode cX3_refer 36 = .ok (.invokevirtual 35, 3) := by decide +kernel
theorem dX3_refer_39 : decode cX3_refer 39 = .ok (.aload_n 2, 1) := by decide +kernel
theorem dX3_refer_40 : decode cX3_refer 40 = .ok (.aload_n 1, 1) := by decide +kernel
theorem dX3_refer_41 : decode cX3_refer 41 = .ok (.getfield 43, 3) := by decide +kernel
theorem dX3_refer_44 : decode cX3_refer 44 = .ok (.putfield 71, 3) := by decide +kernel
theorem dX3_refer_47 : decode cX3_refer 47 = .ok (.aload_n 3, 1) := by decide +kernel
theorem dX3_refer_48 : decode cX3_refer 48 = .ok (.aload 5, 2) := by decide +kernel
theorem dX3_refer_50 : decode cX3_refer 50 = .ok (.invokevirtual 196, 3) := by decide +kernel
theorem dX3_refer_53 : decode cX3_refer 53 = .ok (.return_, 1) := by decide +kernel
theorem dX3_wordsInLog_0 : decode cX3_wordsInLog 0 = .ok (.aload_n 0, 1) := by decide +kernel
theorem dX3_wordsInLog_1 : decode cX3_wordsInLog 1 = .ok (.getfield 131, 3) := by decide +kernel
theorem dX3_wordsInLog_4 : decode cX3_wordsInLog 4 = .ok (.istore_n 1, 1) := by decide +kernel
theorem dX3_wordsInLog_5 : decode cX3_wordsInLog 5 = .ok (.iconst 0, 1) := by decide +kernel
theorem dX3_wordsInLog_6 : decode cX3_wordsInLog 6 = .ok (.istore_n 2, 1) := by decide +kernel
theorem dX3_wordsInLog_7 : decode cX3_wordsInLog 7 = .ok (.iload_n 2, 1) := by decide +kernel
theorem dX3_wordsInLog_8 : decode cX3_wordsInLog 8 = .ok (.iconst 3, 1) := by decide +kernel
theorem dX3_wordsInLog_9 : decode cX3_wordsInLog 9 = .ok (.if_icmp .ge 21, 3) := by decide +kernel
theorem dX3_wordsInLog_12 : decode cX3_wordsInLog 12 = .ok (.iload_n 1, 1) := by decide +kernel
theorem dX3_wordsInLog_13 : decode cX3_wordsInLog 13 = .ok (.aload_n 0, 1) := by decide +kernel
theorem dX3_wordsInLog_14 : decode cX3_wordsInLog 14 = .ok (.getfield 26, 3) := by decide +kernel
theorem dX3_wordsInLog_17 : decode cX3_wordsInLog 17 = .ok (.iload_n 2, 1) := by decide +kernel
theorem dX3_wordsInLog_18 : decode cX3_wordsInLog 18 = .ok (.aaload, 1) := by decide +kernel
theorem dX3_wordsInLog_19 : decode cX3_wordsInLog 19 = .ok (.getfield 134, 3) := by decide +kernel
theorem dX3_wordsInLog_22 : decode cX3_wordsInLog 22 = .ok (.iadd, 1) := by decide +kernel
theorem dX3_wordsInLog_23 : decode cX3_wordsInLog 23 = .ok (.istore_n 1, 1) := by decide +kernel
theorem dX3_wordsInLog_24 : decode cX3_wordsInLog 24 = .ok (.iinc 2 1, 3) := by decide +kernel
theorem dX3_wordsInLog_27 : decode cX3_wordsInLog 27 = .ok (.goto (-20), 3) := by decide +kernel
theorem dX3_wordsInLog_30 : decode cX3_wordsInLog 30 = .ok (.iload_n 1, 1) := by decide +kernel
theorem dX3_wordsInLog_31 : decode cX3_wordsInLog 31 = .ok (.ireturn, 1) := by decide +kernel
theorem dX3_writeRecord_0 : decode cX3_writeRecord 0 = .ok (.aload_n 0, 1) := by decide +kernel
theorem dX3_writeRecord_1 : decode cX3_writeRecord 1 = .ok (.invokevirtual 140, 3) := by decide +kernel
theorem dX3_writeRecord_4 : decode cX3_writeRecord 4 = .ok (.iload_n 2, 1) := by decide +kernel
theorem dX3_writeRecord_5 : decode cX3_writeRecord 5 = .ok (.iadd, 1) := by decide +kernel
theorem dX3_writeRecord_6 : decode cX3_writeRecord 6 = .ok (.sipush 150, 3) := by decide +kernel
theorem dX3_writeRecord_9 : decode cX3_writeRecord 9 = .ok (.if_icmp .le 13, 3) := by decide +kernel
theorem dX3_writeRecord_12 : decode cX3_writeRecord 12 = .ok (.new 200, 3) := by decide +kernel
theorem dX3_writeRecord_15 : decode cX3_writeRecord 15 = .ok (.dup, 1) := by decide +kernel
theorem dX3_writeRecord_16 : decode cX3_writeRecord 16 = .ok (.ldc 202, 2) := by decide +kernel
theorem dX3_writeRecord_18 : decode cX3_writeRecord 18 = .ok (.invokespecial 204, 3) := by decide +kernel
theorem dX3_writeRecord_21 : decode cX3_writeRecord 21 = .ok (.athrow, 1) := by decide +kernel
theorem dX3_writeRecord_22 : decode cX3_writeRecord 22 = .ok (.aload_n 1, 1) := by decide +kernel
theorem dX3_writeRecord_23 : decode cX3_writeRecord 23 = .ok (.dup, 1) := by decide +kernel
theorem dX3_writeRecord_24 : decode cX3_writeRecord 24 = .ok (.getfield 134, 3) := by decide +kernel
theorem dX3_writeRecord_27 : decode cX3_writeRecord 27 = .ok (.iload_n 2, 1) := by decide +kernel
theorem dX3_writeRecord_28 : decode cX3_writeRecord 28 = .ok (.iadd, 1) := by decide +kernel
theorem dX3_writeRecord_29 : decode cX3_writeRecord 29 = .ok (.putfield 134, 3) := by decide +kernel
theorem dX3_writeRecord_32 : decode cX3_writeRecord 32 = .ok (.return_, 1) := by decide +kernel
theorem dX3_end_0 : decode cX3_end 0 = .ok (.iconst 0, 1) := by decide +kernel
theorem dX3_end_1 : decode cX3_end 1 = .ok (.istore_n 3, 1) := by decide +kernel
theorem dX3_end_2 : decode cX3_end 2 = .ok (.iconst 0, 1) := by decide +kernel
theorem dX3_end_3 : decode cX3_end 3 = .ok (.istore 4, 2) := by decide +kernel
theorem dX3_end_5 : decode cX3_end 5 = .ok (.iload 4, 2) := by decide +kernel
theorem dX3_end_7 : decode cX3_end 7 = .ok (.iconst 4, 1) := by decide +kernel
theorem dX3_end_8 : decode cX3_end 8 = .ok (.if_icmp .ge 27, 3) := by decide +kernel
theorem dX3_end_11 : decode cX3_end 11 = .ok (.iload_n 3, 1) := by decide +kernel
theorem dX3_end_12 : decode cX3_end 12 = .ok (.aload_n 0, 1) := by decide +kernel
theorem dX3_end_13 : decode cX3_end 13 = .ok (.getfield 11, 3) := by decide +kernel
theorem dX3_end_16 : decode cX3_end 16 = .ok (.iload 4, 2) := by decide +kernel
theorem dX3_end_18 : decode cX3_end 18 = .ok (.aaload, 1) := by decide +kernel
theorem dX3_end_19 : decode cX3_end 19 = .ok (.aload_n 1, 1) := by decide +kernel
theorem dX3_end_20 : decode cX3_end 20 = .ok (.getfield 43, 3) := by decide +kernel
theorem dX3_end_23 : decode cX3_end 23 = .ok (.iload_n 2, 1) := by decide +kernel
theorem dX3_end_24 : decode cX3_end 24 = .ok (.invokevirtual 205, 3) := by decide +kernel
theorem dX3_end_27 : decode cX3_end 27 = .ok (.iadd, 1) := by decide +kernel
theorem dX3_end_28 : decode cX3_end 28 = .ok (.istore_n 3, 1) := by decide +kernel
theorem dX3_end_29 : decode cX3_end 29 = .ok (.iinc 4 1, 3) := by decide +kernel
theorem dX3_end_32 : decode cX3_end 32 = .ok (.goto (-27), 3) := by decide +kernel
theorem dX3_end_35 : decode cX3_end 35 = .ok (.iconst 0, 1) := by decide +kernel
theorem dX3_end_36 : decode cX3_end 36 = .ok (.istore 4, 2) := by decide +kernel
theorem dX3_end_38 : decode cX3_end 38 = .ok (.iload 4, 2) := by decide +kernel
theorem dX3_end_40 : decode cX3_end 40 = .ok (.aload_n 0, 1) := by decide +kernel
theorem dX3_end_41 : decode cX3_end 41 = .ok (.getfield 60, 3) := by decide +kernel
theorem dX3_end_44 : decode cX3_end 44 = .ok (.if_icmp .ge 27, 3) := by decide +kernel
theorem dX3_end_47 : decode cX3_end 47 = .ok (.iload_n 3, 1) := by decide +kernel
theorem dX3_end_48 : decode cX3_end 48 = .ok (.aload_n 0, 1) := by decide +kernel
theorem dX3_end_49 : decode cX3_end 49 = .ok (.getfield 18, 3) := by decide +kernel
theorem dX3_end_52 : decode cX3_end 52 = .ok (.iload 4, 2) := by decide +kernel
theorem dX3_end_54 : decode cX3_end 54 = .ok (.aaload, 1) := by decide +kernel
theorem dX3_end_55 : decode cX3_end 55 = .ok (.aload_n 1, 1) := by decide +kernel
theorem dX3_end_56 : decode cX3_end 56 = .ok (.getfield 43, 3) := by decide +kernel
theorem dX3_end_59 : decode cX3_end 59 = .ok (.iload_n 2, 1) := by decide +kernel
theorem dX3_end_60 : decode cX3_end 60 = .ok (.invokevirtual 205, 3) := by decide +kernel
theorem dX3_end_63 : decode cX3_end 63 = .ok (.iadd, 1) := by decide +kernel
theorem dX3_end_64 : decode cX3_end 64 = .ok (.istore_n 3, 1) := by decide +kernel
theorem dX3_end_65 : decode cX3_end 65 = .ok (.iinc 4 1, 3) := by decide +kernel
theorem dX3_end_68 : decode cX3_end 68 = .ok (.goto (-30), 3) := by decide +kernel
theorem dX3_end_71 : decode cX3_end 71 = .ok (.aload_n 1, 1) := by decide +kernel
theorem dX3_end_72 : decode cX3_end 72 = .ok (.iconst 0, 1) := by decide +kernel
theorem dX3_end_73 : decode cX3_end 73 = .ok (.putfield 43, 3) := by decide +kernel
theorem dX3_end_76 : decode cX3_end 76 = .ok (.aload_n 1, 1) := by decide +kernel
theorem dX3_end_77 : decode cX3_end 77 = .ok (.iconst 0, 1) := by decide +kernel
theorem dX3_end_78 : decode cX3_end 78 = .ok (.putfield 134, 3) := by decide +kernel
theorem dX3_end_81 : decode cX3_end 81 = .ok (.iload_n 3, 1) := by decide +kernel
theorem dX3_end_82 : decode cX3_end 82 = .ok (.ireturn, 1) := by decide +kernel
theorem dX3_findHeld_0 : decode cX3_findHeld 0 = .ok (.aload_n 0, 1) := by decide +kernel
theorem dX3_findHeld_1 : decode cX3_findHeld 1 = .ok (.iconst 0, 1) := by decide +kernel
theorem dX3_findHeld_2 : decode cX3_findHeld 2 = .ok (.putfield 150, 3) := by decide +kernel
theorem dX3_findHeld_5 : decode cX3_findHeld 5 = .ok (.iconst 0, 1) := by decide +kernel
theorem dX3_findHeld_6 : decode cX3_findHeld 6 = .ok (.istore_n 1, 1) := by decide +kernel
theorem dX3_findHeld_7 : decode cX3_findHeld 7 = .ok (.iload_n 1, 1) := by decide +kernel
theorem dX3_findHeld_8 : decode cX3_findHeld 8 = .ok (.aload_n 0, 1) := by decide +kernel
theorem dX3_findHeld_9 : decode cX3_findHeld 9 = .ok (.getfield 60, 3) := by decide +kernel
theorem dX3_findHeld_12 : decode cX3_findHeld 12 = .ok (.if_icmp .ge 19, 3) := by decide +kernel
theorem dX3_findHeld_15 : decode cX3_findHeld 15 = .ok (.aload_n 0, 1) := by decide +kernel
theorem dX3_findHeld_16 : decode cX3_findHeld 16 = .ok (.getfield 18, 3) := by decide +kernel
theorem dX3_findHeld_19 : decode cX3_findHeld 19 = .ok (.iload_n 1, 1) := by decide +kernel
theorem dX3_findHeld_20 : decode cX3_findHeld 20 = .ok (.aaload, 1) := by decide +kernel
theorem dX3_findHeld_21 : decode cX3_findHeld 21 = .ok (.iconst 0, 1) := by decide +kernel
theorem dX3_findHeld_22 : decode cX3_findHeld 22 = .ok (.putfield 209, 3) := by decide +kernel
theorem dX3_findHeld_25 : decode cX3_findHeld 25 = .ok (.iinc 1 1, 3) := by decide +kernel
theorem dX3_findHeld_28 : decode cX3_findHeld 28 = .ok (.goto (-21), 3) := by decide +kernel
theorem dX3_findHeld_31 : decode cX3_findHeld 31 = .ok (.iconst 0, 1) := by decide +kernel
theorem dX3_findHeld_32 : decode cX3_findHeld 32 = .ok (.istore_n 1, 1) := by decide +kernel
theorem dX3_findHeld_33 : decode cX3_findHeld 33 = .ok (.iload_n 1, 1) := by decide +kernel
theorem dX3_findHeld_34 : decode cX3_findHeld 34 = .ok (.iconst 4, 1) := by decide +kernel
theorem dX3_findHeld_35 : decode cX3_findHeld 35 = .ok (.if_icmp .ge 19, 3) := by decide +kernel
theorem dX3_findHeld_38 : decode cX3_findHeld 38 = .ok (.aload_n 0, 1) := by decide +kernel
theorem dX3_findHeld_39 : decode cX3_findHeld 39 = .ok (.aload_n 0, 1) := by decide +kernel
theorem dX3_findHeld_40 : decode cX3_findHeld 40 = .ok (.getfield 11, 3) := by decide +kernel
theorem dX3_findHeld_43 : decode cX3_findHeld 43 = .ok (.iload_n 1, 1) := by decide +kernel
theorem dX3_findHeld_44 : decode cX3_findHeld 44 = .ok (.aaload, 1) := by decide +kernel
theorem dX3_findHeld_45 : decode cX3_findHeld 45 = .ok (.invokevirtual 212, 3) := by decide +kernel
theorem dX3_findHeld_48 : decode cX3_findHeld 48 = .ok (.iinc 1 1, 3) := by decide +kernel
theorem dX3_findHeld_51 : decode cX3_findHeld 51 = .ok (.goto (-18), 3) := by decide +kernel
theorem dX3_findHeld_54 : decode cX3_findHeld 54 = .ok (.iconst 0, 1) := by decide +kernel
theorem dX3_findHeld_55 : decode cX3_findHeld 55 = .ok (.istore_n 1, 1) := by decide +kernel
theorem dX3_findHeld_56 : decode cX3_findHeld 56 = .ok (.iload_n 1, 1) := by decide +kernel
theorem dX3_findHeld_57 : decode cX3_findHeld 57 = .ok (.aload_n 0, 1) := by decide +kernel
theorem dX3_findHeld_58 : decode cX3_findHeld 58 = .ok (.getfield 60, 3) := by decide +kernel
theorem dX3_findHeld_61 : decode cX3_findHeld 61 = .ok (.if_icmp .ge 31, 3) := by decide +kernel
theorem dX3_findHeld_64 : decode cX3_findHeld 64 = .ok (.aload_n 0, 1) := by decide +kernel
theorem dX3_findHeld_65 : decode cX3_findHeld 65 = .ok (.getfield 18, 3) := by decide +kernel
theorem dX3_findHeld_68 : decode cX3_findHeld 68 = .ok (.iload_n 1, 1) := by decide +kernel
theorem dX3_findHeld_69 : decode cX3_findHeld 69 = .ok (.aaload, 1) := by decide +kernel
theorem dX3_findHeld_70 : decode cX3_findHeld 70 = .ok (.getfield 71, 3) := by decide +kernel
theorem dX3_findHeld_73 : decode cX3_findHeld 73 = .ok (.ifCond .eq 13, 3) := by decide +kernel
theorem dX3_findHeld_76 : decode cX3_findHeld 76 = .ok (.aload_n 0, 1) := by decide +kernel
theorem dX3_findHeld_77 : decode cX3_findHeld 77 = .ok (.aload_n 0, 1) := by decide +kernel
theorem dX3_findHeld_78 : decode cX3_findHeld 78 = .ok (.getfield 18, 3) := by decide +kernel
theorem dX3_findHeld_81 : decode cX3_findHeld 81 = .ok (.iload_n 1, 1) := by decide +kernel
theorem dX3_findHeld_82 : decode cX3_findHeld 82 = .ok (.aaload, 1) := by decide +kernel
theorem dX3_findHeld_83 : decode cX3_findHeld 83 = .ok (.invokevirtual 215, 3) := by decide +kernel
theorem dX3_findHeld_86 : decode cX3_findHeld 86 = .ok (.iinc 1 1, 3) := by decide +kernel
theorem dX3_findHeld_89 : decode cX3_findHeld 89 = .ok (.goto (-33), 3) := by decide +kernel
theorem dX3_findHeld_92 : decode cX3_findHeld 92 = .ok (.iconst 0, 1) := by decide +kernel
theorem dX3_findHeld_93 : decode cX3_findHeld 93 = .ok (.istore_n 1, 1) := by decide +kernel
theorem dX3_findHeld_94 : decode cX3_findHeld 94 = .ok (.iload_n 1, 1) := by decide +kernel
theorem dX3_findHeld_95 : decode cX3_findHeld 95 = .ok (.aload_n 0, 1) := by decide +kernel
theorem dX3_findHeld_96 : decode cX3_findHeld 96 = .ok (.getfield 150, 3) := by decide +kernel
theorem dX3_findHeld_99 : decode cX3_findHeld 99 = .ok (.if_icmp .ge 28, 3) := by decide +kernel
theorem dX3_findHeld_102 : decode cX3_findHeld 102 = .ok (.iload_n 1, 1) := by decide +kernel
theorem dX3_findHeld_103 : decode cX3_findHeld 103 = .ok (.aload_n 0, 1) := by decide +kernel
theorem dX3_findHeld_104 : decode cX3_findHeld 104 = .ok (.getfield 21, 3) := by decide +kernel
theorem dX3_findHeld_107 : decode cX3_findHeld 107 = .ok (.arraylength, 1) := by decide +kernel
theorem dX3_findHeld_108 : decode cX3_findHeld 108 = .ok (.if_icmp .ge 19, 3) := by decide +kernel
theorem dX3_findHeld_111 : decode cX3_findHeld 111 = .ok (.aload_n 0, 1) := by decide +kernel
theorem dX3_findHeld_112 : decode cX3_findHeld 112 = .ok (.aload_n 0, 1) := by decide +kernel
theorem dX3_findHeld_113 : decode cX3_findHeld 113 = .ok (.getfield 21, 3) := by decide +kernel
theorem dX3_findHeld_116 : decode cX3_findHeld 116 = .ok (.iload_n 1, 1) := by decide +kernel
theorem dX3_findHeld_117 : decode cX3_findHeld 117 = .ok (.aaload, 1) := by decide +kernel
theorem dX3_findHeld_118 : decode cX3_findHeld 118 = .ok (.invokevirtual 212, 3) := by decide +kernel
theorem dX3_findHeld_121 : decode cX3_findHeld 121 = .ok (.iinc 1 1, 3) := by decide +kernel
theorem dX3_findHeld_124 : decode cX3_findHeld 124 = .ok (.goto (-30), 3) := by decide +kernel
theorem dX3_findHeld_127 : decode cX3_findHeld 127 = .ok (.return_, 1) := by decide +kernel
theorem dX3_holdTargets_0 : decode cX3_holdTargets 0 = .ok (.iconst 0, 1) := by decide +kernel
theorem dX3_holdTargets_1 : decode cX3_holdTargets 1 = .ok (.istore_n 2, 1) := by decide +kernel
theorem dX3_holdTargets_2 : decode cX3_holdTargets 2 = .ok (.iload_n 2, 1) := by decide +kernel
theorem dX3_holdTargets_3 : decode cX3_holdTargets 3 = .ok (.aload_n 1, 1) := by decide +kernel
theorem dX3_holdTargets_4 : decode cX3_holdTargets 4 = .ok (.getfield 103, 3) := by decide +kernel
theorem dX3_holdTargets_7 : decode cX3_holdTargets 7 = .ok (.arraylength, 1) := by decide +kernel
theorem dX3_holdTargets_8 : decode cX3_holdTargets 8 = .ok (.if_icmp .ge 35, 3) := by decide +kernel
theorem dX3_holdTargets_11 : decode cX3_holdTargets 11 = .ok (.aload_n 0, 1) := by decide +kernel
theorem dX3_holdTargets_12 : decode cX3_holdTargets 12 = .ok (.aload_n 1, 1) := by decide +kernel
theorem dX3_holdTargets_13 : decode cX3_holdTargets 13 = .ok (.getfield 103, 3) := by decide +kernel
theorem dX3_holdTargets_16 : decode cX3_holdTargets 16 = .ok (.iload_n 2, 1) := by decide +kernel
theorem dX3_holdTargets_17 : decode cX3_holdTargets 17 = .ok (.aaload, 1) := by decide +kernel
theorem dX3_holdTargets_18 : decode cX3_holdTargets 18 = .ok (.getfield 123, 3) := by decide +kernel
theorem dX3_holdTargets_21 : decode cX3_holdTargets 21 = .ok (.invokevirtual 215, 3) := by decide +kernel
theorem dX3_holdTargets_24 : decode cX3_holdTargets 24 = .ok (.aload_n 0, 1) := by decide +kernel
theorem dX3_holdTargets_25 : decode cX3_holdTargets 25 = .ok (.aload_n 1, 1) := by decide +kernel
theorem dX3_holdTargets_26 : decode cX3_holdTargets 26 = .ok (.getfield 103, 3) := by decide +kernel
theorem dX3_holdTargets_29 : decode cX3_holdTargets 29 = .ok (.iload_n 2, 1) := by decide +kernel
theorem dX3_holdTargets_30 : decode cX3_holdTargets 30 = .ok (.aaload, 1) := by decide +kernel
theorem dX3_holdTargets_31 : decode cX3_holdTargets 31 = .ok (.getfield 218, 3) := by decide +kernel
theorem dX3_holdTargets_34 : decode cX3_holdTargets 34 = .ok (.invokevirtual 215, 3) := by decide +kernel
theorem dX3_holdTargets_37 : decode cX3_holdTargets 37 = .ok (.iinc 2 1, 3) := by decide +kernel
theorem dX3_holdTargets_40 : decode cX3_holdTargets 40 = .ok (.goto (-38), 3) := by decide +kernel
theorem dX3_holdTargets_43 : decode cX3_holdTargets 43 = .ok (.return_, 1) := by decide +kernel
theorem dX3_hold_0 : decode cX3_hold 0 = .ok (.aload_n 1, 1) := by decide +kernel
theorem dX3_hold_1 : decode cX3_hold 1 = .ok (.ifnull 47, 3) := by decide +kernel
theorem dX3_hold_4 : decode cX3_hold 4 = .ok (.aload_n 1, 1) := by decide +kernel
theorem dX3_hold_5 : decode cX3_hold 5 = .ok (.getfield 209, 3) := by decide +kernel
theorem dX3_hold_8 : decode cX3_hold 8 = .ok (.ifCond .ne 40, 3) := by decide +kernel
theorem dX3_hold_11 : decode cX3_hold 11 = .ok (.aload_n 0, 1) := by decide +kernel
theorem dX3_hold_12 : decode cX3_hold 12 = .ok (.getfield 150, 3) := by decide +kernel
theorem dX3_hold_15 : decode cX3_hold 15 = .ok (.aload_n 0, 1) := by decide +kernel
theorem dX3_hold_16 : decode cX3_hold 16 = .ok (.getfield 21, 3) := by decide +kernel
theorem dX3_hold_19 : decode cX3_hold 19 = .ok (.arraylength, 1) := by decide +kernel
theorem dX3_hold_20 : decode cX3_hold 20 = .ok (.if_icmp .ge 28, 3) := by decide +kernel
theorem dX3_hold_23 : decode cX3_hold 23 = .ok (.aload_n 1, 1) := by decide +kernel
theorem dX3_hold_24 : decode cX3_hold 24 = .ok (.iconst 1, 1) := by decide +kernel
theorem dX3_hold_25 : decode cX3_hold 25 = .ok (.putfield 209, 3) := by decide +kernel
theorem dX3_hold_28 : decode cX3_hold 28 = .ok (.aload_n 0, 1) := by decide +kernel
theorem dX3_hold_29 : decode cX3_hold 29 = .ok (.getfield 21, 3) := by decide +kernel
theorem dX3_hold_32 : decode cX3_hold 32 = .ok (.aload_n 0, 1) := by decide +kernel
theorem dX3_hold_33 : decode cX3_hold 33 = .ok (.getfield 150, 3) := by decide +kernel
theorem dX3_hold_36 : decode cX3_hold 36 = .ok (.aload_n 1, 1) := by decide +kernel
theorem dX3_hold_37 : decode cX3_hold 37 = .ok (.aastore, 1) := by decide +kernel
theorem dX3_hold_38 : decode cX3_hold 38 = .ok (.aload_n 0, 1) := by decide +kernel
theorem dX3_hold_39 : decode cX3_hold 39 = .ok (.dup, 1) := by decide +kernel
theorem dX3_hold_40 : decode cX3_hold 40 = .ok (.getfield 150, 3) := by decide +kernel
theorem dX3_hold_43 : decode cX3_hold 43 = .ok (.iconst 1, 1) := by decide +kernel
theorem dX3_hold_44 : decode cX3_hold 44 = .ok (.iadd, 1) := by decide +kernel
theorem dX3_hold_45 : decode cX3_hold 45 = .ok (.putfield 150, 3) := by decide +kernel
theorem dX3_hold_48 : decode cX3_hold 48 = .ok (.return_, 1) := by decide +kernel
theorem dX3_flip_0 : decode cX3_flip 0 = .ok (.iconst 0, 1) := by decide +kernel
theorem dX3_flip_1 : decode cX3_flip 1 = .ok (.istore_n 1, 1) := by decide +kernel
theorem dX3_flip_2 : decode cX3_flip 2 = .ok (.aload_n 0, 1) := by decide +kernel
theorem dX3_flip_3 : decode cX3_flip 3 = .ok (.iconst 0, 1) := by decide +kernel
theorem dX3_flip_4 : decode cX3_flip 4 = .ok (.putfield 57, 3) := by decide +kernel
theorem dX3_flip_7 : decode cX3_flip 7 = .ok (.iconst 0, 1) := by decide +kernel
theorem dX3_flip_8 : decode cX3_flip 8 = .ok (.istore_n 2, 1) := by decide +kernel
theorem dX3_flip_9 : decode cX3_flip 9 = .ok (.iload_n 2, 1) := by decide +kernel
theorem dX3_flip_10 : decode cX3_flip 10 = .ok (.aload_n 0, 1) := by decide +kernel
theorem dX3_flip_11 : decode cX3_flip 11 = .ok (.getfield 60, 3) := by decide +kernel
theorem dX3_flip_14 : decode cX3_flip 14 = .ok (.if_icmp .ge 54, 3) := by decide +kernel
theorem dX3_flip_17 : decode cX3_flip 17 = .ok (.aload_n 0, 1) := by decide +kernel
theorem dX3_flip_18 : decode cX3_flip 18 = .ok (.getfield 18, 3) := by decide +kernel
theorem dX3_flip_21 : decode cX3_flip 21 = .ok (.iload_n 2, 1) := by decide +kernel
theorem dX3_flip_22 : decode cX3_flip 22 = .ok (.aaload, 1) := by decide +kernel
theorem dX3_flip_23 : decode cX3_flip 23 = .ok (.getfield 209, 3) := by decide +kernel
theorem dX3_flip_26 : decode cX3_flip 26 = .ok (.ifCond .eq 36, 3) := by decide +kernel
theorem dX3_flip_29 : decode cX3_flip 29 = .ok (.aload_n 0, 1) := by decide +kernel
theorem dX3_flip_30 : decode cX3_flip 30 = .ok (.getfield 18, 3) := by decide +kernel
theorem dX3_flip_33 : decode cX3_flip 33 = .ok (.iload_n 1, 1) := by decide +kernel
theorem dX3_flip_34 : decode cX3_flip 34 = .ok (.aload_n 0, 1) := by decide +kernel
theorem dX3_flip_35 : decode cX3_flip 35 = .ok (.getfield 18, 3) := by decide +kernel
theorem dX3_flip_38 : decode cX3_flip 38 = .ok (.iload_n 2, 1) := by decide +kernel
theorem dX3_flip_39 : decode cX3_flip 39 = .ok (.aaload, 1) := by decide +kernel
theorem dX3_flip_40 : decode cX3_flip 40 = .ok (.aastore, 1) := by decide +kernel
theorem dX3_flip_41 : decode cX3_flip 41 = .ok (.aload_n 0, 1) := by decide +kernel
theorem dX3_flip_42 : decode cX3_flip 42 = .ok (.dup, 1) := by decide +kernel
theorem dX3_flip_43 : decode cX3_flip 43 = .ok (.getfield 57, 3) := by decide +kernel
theorem dX3_flip_46 : decode cX3_flip 46 = .ok (.aload_n 0, 1) := by decide +kernel
theorem dX3_flip_47 : decode cX3_flip 47 = .ok (.getfield 18, 3) := by decide +kernel
theorem dX3_flip_50 : decode cX3_flip 50 = .ok (.iload_n 1, 1) := by decide +kernel
theorem dX3_flip_51 : decode cX3_flip 51 = .ok (.aaload, 1) := by decide +kernel
theorem dX3_flip_52 : decode cX3_flip 52 = .ok (.invokevirtual 74, 3) := by decide +kernel
theorem dX3_flip_55 : decode cX3_flip 55 = .ok (.iadd, 1) := by decide +kernel
theorem dX3_flip_56 : decode cX3_flip 56 = .ok (.putfield 57, 3) := by decide +kernel
theorem dX3_flip_59 : decode cX3_flip 59 = .ok (.iinc 1 1, 3) := by decide +kernel
theorem dX3_flip_62 : decode cX3_flip 62 = .ok (.iinc 2 1, 3) := by decide +kernel
theorem dX3_flip_65 : decode cX3_flip 65 = .ok (.goto (-56), 3) := by decide +kernel
theorem dX3_flip_68 : decode cX3_flip 68 = .ok (.aload_n 0, 1) := by decide +kernel
theorem dX3_flip_69 : decode cX3_flip 69 = .ok (.iload_n 1, 1) := by decide +kernel
theorem dX3_flip_70 : decode cX3_flip 70 = .ok (.putfield 60, 3) := by decide +kernel
theorem dX3_flip_73 : decode cX3_flip 73 = .ok (.aload_n 0, 1) := by decide +kernel
theorem dX3_flip_74 : decode cX3_flip 74 = .ok (.dup, 1) := by decide +kernel
theorem dX3_flip_75 : decode cX3_flip 75 = .ok (.getfield 170, 3) := by decide +kernel
theorem dX3_flip_78 : decode cX3_flip 78 = .ok (.iconst 1, 1) := by decide +kernel
theorem dX3_flip_79 : decode cX3_flip 79 = .ok (.iadd, 1) := by decide +kernel
theorem dX3_flip_80 : decode cX3_flip 80 = .ok (.putfield 170, 3) := by decide +kernel
theorem dX3_flip_83 : decode cX3_flip 83 = .ok (.return_, 1) := by decide +kernel
theorem dX0_init_0 : decode cX0_init 0 = .ok (.aload_n 0, 1) := by decide +kernel
theorem dX0_init_1 : decode cX0_init 1 = .ok (.invokespecial 1, 3) := by decide +kernel
theorem dX0_init_4 : decode cX0_init 4 = .ok (.aload_n 0, 1) := by decide +kernel
theorem dX0_init_5 : decode cX0_init 5 = .ok (.iload_n 1, 1) := by decide +kernel
theorem dX0_init_6 : decode cX0_init 6 = .ok (.putfield 7, 3) := by decide +kernel
theorem dX0_init_9 : decode cX0_init 9 = .ok (.aload_n 0, 1) := by decide +kernel
theorem dX0_init_10 : decode cX0_init 10 = .ok (.iload_n 2, 1) := by decide +kernel
theorem dX0_init_11 : decode cX0_init 11 = .ok (.anewarray 13, 3) := by decide +kernel
theorem dX0_init_14 : decode cX0_init 14 = .ok (.putfield 15, 3) := by decide +kernel
theorem dX0_init_17 : decode cX0_init 17 = .ok (.iconst 0, 1) := by decide +kernel
theorem dX0_init_18 : decode cX0_init 18 = .ok (.istore_n 3, 1) := by decide +kernel
theorem dX0_init_19 : decode cX0_init 19 = .ok (.iload_n 3, 1) := by decide +kernel
theorem dX0_init_20 : decode cX0_init 20 = .ok (.iload_n 2, 1) := by decide +kernel
theorem dX0_init_21 : decode cX0_init 21 = .ok (.if_icmp .ge 22, 3) := by decide +kernel
theorem dX0_init_24 : decode cX0_init 24 = .ok (.aload_n 0, 1) := by decide +kernel
theorem dX0_init_25 : decode cX0_init 25 = .ok (.getfield 15, 3) := by decide +kernel
theorem dX0_init_28 : decode cX0_init 28 = .ok (.iload_n 3, 1) := by decide +kernel
theorem dX0_init_29 : decode cX0_init 29 = .ok (.new 13, 3) := by decide +kernel
theorem dX0_init_32 : decode cX0_init 32 = .ok (.dup, 1) := by decide +kernel
theorem dX0_init_33 : decode cX0_init 33 = .ok (.invokespecial 19, 3) := by decide +kernel
theorem dX0_init_36 : decode cX0_init 36 = .ok (.aastore, 1) := by decide +kernel
theorem dX0_init_37 : decode cX0_init 37 = .ok (.iinc 3 1, 3) := by decide +kernel
theorem dX0_init_40 : decode cX0_init 40 = .ok (.goto (-21), 3) := by decide +kernel
theorem dX0_init_43 : decode cX0_init 43 = .ok (.return_, 1) := by decide +kernel
theorem dX0_words_0 : decode cX0_words 0 = .ok (.iconst 1, 1) := by decide +kernel
theorem dX0_words_1 : decode cX0_words 1 = .ok (.aload_n 0, 1) := by decide +kernel
theorem dX0_words_2 : decode cX0_words 2 = .ok (.getfield 15, 3) := by decide +kernel
theorem dX0_words_5 : decode cX0_words 5 = .ok (.arraylength, 1) := by decide +kernel
theorem dX0_words_6 : decode cX0_words 6 = .ok (.iadd, 1) := by decide +kernel
theorem dX0_words_7 : decode cX0_words 7 = .ok (.ireturn, 1) := by decide +kernel
theorem dX0_unlock_0 : decode cX0_unlock 0 = .ok (.aload_n 0, 1) := by decide +kernel
theorem dX0_unlock_1 : decode cX0_unlock 1 = .ok (.getfield 20, 3) := by decide +kernel
theorem dX0_unlock_4 : decode cX0_unlock 4 = .ok (.iload_n 1, 1) := by decide +kernel
theorem dX0_unlock_5 : decode cX0_unlock 5 = .ok (.if_icmp .eq 5, 3) := by decide +kernel
theorem dX0_unlock_8 : decode cX0_unlock 8 = .ok (.iconst 0, 1) := by decide +kernel
theorem dX0_unlock_9 : decode cX0_unlock 9 = .ok (.ireturn, 1) := by decide +kernel
theorem dX0_unlock_10 : decode cX0_unlock 10 = .ok (.aload_n 0, 1) := by decide +kernel
theorem dX0_unlock_11 : decode cX0_unlock 11 = .ok (.iconst 0, 1) := by decide +kernel
theorem dX0_unlock_12 : decode cX0_unlock 12 = .ok (.putfield 20, 3) := by decide +kernel
theorem dX0_unlock_15 : decode cX0_unlock 15 = .ok (.iconst 0, 1) := by decide +kernel
theorem dX0_unlock_16 : decode cX0_unlock 16 = .ok (.istore_n 3, 1) := by decide +kernel
theorem dX0_unlock_17 : decode cX0_unlock 17 = .ok (.iload_n 3, 1) := by decide +kernel
theorem dX0_unlock_18 : decode cX0_unlock 18 = .ok (.aload_n 0, 1) := by decide +kernel
theorem dX0_unlock_19 : decode cX0_unlock 19 = .ok (.getfield 15, 3) := by decide +kernel
theorem dX0_unlock_22 : decode cX0_unlock 22 = .ok (.arraylength, 1) := by decide +kernel
theorem dX0_unlock_23 : decode cX0_unlock 23 = .ok (.if_icmp .ge 31, 3) := by decide +kernel
theorem dX0_unlock_26 : decode cX0_unlock 26 = .ok (.iload_n 2, 1) := by decide +kernel
theorem dX0_unlock_27 : decode cX0_unlock 27 = .ok (.ifCond .ne 12, 3) := by decide +kernel
theorem dX0_unlock_30 : decode cX0_unlock 30 = .ok (.aload_n 0, 1) := by decide +kernel
theorem dX0_unlock_31 : decode cX0_unlock 31 = .ok (.getfield 15, 3) := by decide +kernel
theorem dX0_unlock_34 : decode cX0_unlock 34 = .ok (.iload_n 3, 1) := by decide +kernel
theorem dX0_unlock_35 : decode cX0_unlock 35 = .ok (.aaload, 1) := by decide +kernel
theorem dX0_unlock_36 : decode cX0_unlock 36 = .ok (.invokevirtual 23, 3) := by decide +kernel
theorem dX0_unlock_39 : decode cX0_unlock 39 = .ok (.aload_n 0, 1) := by decide +kernel
theorem dX0_unlock_40 : decode cX0_unlock 40 = .ok (.getfield 15, 3) := by decide +kernel
theorem dX0_unlock_43 : decode cX0_unlock 43 = .ok (.iload_n 3, 1) := by decide +kernel
theorem dX0_unlock_44 : decode cX0_unlock 44 = .ok (.aaload, 1) := by decide +kernel
theorem dX0_unlock_45 : decode cX0_unlock 45 = .ok (.invokevirtual 26, 3) := by decide +kernel
theorem dX0_unlock_48 : decode cX0_unlock 48 = .ok (.iinc 3 1, 3) := by decide +kernel
theorem dX0_unlock_51 : decode cX0_unlock 51 = .ok (.goto (-34), 3) := by decide +kernel
theorem dX0_unlock_54 : decode cX0_unlock 54 = .ok (.iconst 1, 1) := by decide +kernel
theorem dX0_unlock_55 : decode cX0_unlock 55 = .ok (.ireturn, 1) := by decide +kernel
theorem dX1_init_0 : decode cX1_init 0 = .ok (.aload_n 0, 1) := by decide +kernel
theorem dX1_init_1 : decode cX1_init 1 = .ok (.invokespecial 1, 3) := by decide +kernel
theorem dX1_init_4 : decode cX1_init 4 = .ok (.return_, 1) := by decide +kernel
theorem dX1_putNumber_0 : decode cX1_putNumber 0 = .ok (.aload_n 0, 1) := by decide +kernel
theorem dX1_putNumber_1 : decode cX1_putNumber 1 = .ok (.invokevirtual 7, 3) := by decide +kernel
theorem dX1_putNumber_4 : decode cX1_putNumber 4 = .ok (.aload_n 0, 1) := by decide +kernel
theorem dX1_putNumber_5 : decode cX1_putNumber 5 = .ok (.iconst 0, 1) := by decide +kernel
theorem dX1_putNumber_6 : decode cX1_putNumber 6 = .ok (.putfield 12, 3) := by decide +kernel
theorem dX1_putNumber_9 : decode cX1_putNumber 9 = .ok (.aload_n 0, 1) := by decide +kernel
theorem dX1_putNumber_10 : decode cX1_putNumber 10 = .ok (.iload_n 1, 1) := by decide +kernel
theorem dX1_putNumber_11 : decode cX1_putNumber 11 = .ok (.putfield 16, 3) := by decide +kernel
theorem dX1_putNumber_14 : decode cX1_putNumber 14 = .ok (.aload_n 0, 1) := by decide +kernel
theorem dX1_putNumber_15 : decode cX1_putNumber 15 = .ok (.aconst_null, 1) := by decide +kernel
theorem dX1_putNumber_16 : decode cX1_putNumber 16 = .ok (.putfield 20, 3) := by decide +kernel
theorem dX1_putNumber_19 : decode cX1_putNumber 19 = .ok (.return_, 1) := by decide +kernel
theorem dX1_putReference_0 : decode cX1_putReference 0 = .ok (.aload_n 0, 1) := by decide +kernel
theorem dX1_putReference_1 : decode cX1_putReference 1 = .ok (.invokevirtual 7, 3) := by decide +kernel
theorem dX1_putReference_4 : decode cX1_putReference 4 = .ok (.aload_n 0, 1) := by decide +kernel
theorem dX1_putReference_5 : decode cX1_putReference 5 = .ok (.iconst 1, 1) := by decide +kernel
theorem dX1_putReference_6 : decode cX1_putReference 6 = .ok (.putfield 12, 3) := by decide +kernel
theorem dX1_putReference_9 : decode cX1_putReference 9 = .ok (.aload_n 0, 1) := by decide +kernel
theorem dX1_putReference_10 : decode cX1_putReference 10 = .ok (.iconst 0, 1) := by decide +kernel
theorem dX1_putReference_11 : decode cX1_putReference 11 = .ok (.putfield 16, 3) := by decide +kernel
theorem dX1_putReference_14 : decode cX1_putReference 14 = .ok (.aload_n 0, 1) := by decide +kernel
theorem dX1_putReference_15 : decode cX1_putReference 15 = .ok (.aload_n 1, 1) := by decide +kernel
theorem dX1_putReference_16 : decode cX1_putReference 16 = .ok (.putfield 20, 3) := by decide +kernel
theorem dX1_putReference_19 : decode cX1_putReference 19 = .ok (.return_, 1) := by decide +kernel
theorem dX1_takeBack_0 : decode cX1_takeBack 0 = .ok (.aload_n 0, 1) := by decide +kernel
theorem dX1_takeBack_1 : decode cX1_takeBack 1 = .ok (.getfield 24, 3) := by decide +kernel
theorem dX1_takeBack_4 : decode cX1_takeBack 4 = .ok (.ifCond .eq 27, 3) := by decide +kernel
theorem dX1_takeBack_7 : decode cX1_takeBack 7 = .ok (.aload_n 0, 1) := by decide +kernel
theorem dX1_takeBack_8 : decode cX1_takeBack 8 = .ok (.aload_n 0, 1) := by decide +kernel
theorem dX1_takeBack_9 : decode cX1_takeBack 9 = .ok (.getfield 27, 3) := by decide +kernel
theorem dX1_takeBack_12 : decode cX1_takeBack 12 = .ok (.putfield 12, 3) := by decide +kernel
theorem dX1_takeBack_15 : decode cX1_takeBack 15 = .ok (.aload_n 0, 1) := by decide +kernel
theorem dX1_takeBack_16 : decode cX1_takeBack 16 = .ok (.aload_n 0, 1) := by decide +kernel
theorem dX1_takeBack_17 : decode cX1_takeBack 17 = .ok (.getfield 30, 3) := by decide +kernel
theorem dX1_takeBack_20 : decode cX1_takeBack 20 = .ok (.putfield 16, 3) := by decide +kernel
theorem dX1_takeBack_23 : decode cX1_takeBack 23 = .ok (.aload_n 0, 1) := by decide +kernel
theorem dX1_takeBack_24 : decode cX1_takeBack 24 = .ok (.aload_n 0, 1) := by decide +kernel
theorem dX1_takeBack_25 : decode cX1_takeBack 25 = .ok (.getfield 33, 3) := by decide +kernel
theorem dX1_takeBack_28 : decode cX1_takeBack 28 = .ok (.putfield 20, 3) := by decide +kernel
theorem dX1_takeBack_31 : decode cX1_takeBack 31 = .ok (.return_, 1) := by decide +kernel
theorem dX1_forgetFormer_0 : decode cX1_forgetFormer 0 = .ok (.aload_n 0, 1) := by decide +kernel
theorem dX1_forgetFormer_1 : decode cX1_forgetFormer 1 = .ok (.iconst 0, 1) := by decide +kernel
theorem dX1_forgetFormer_2 : decode cX1_forgetFormer 2 = .ok (.putfield 24, 3) := by decide +kernel
theorem dX1_forgetFormer_5 : decode cX1_forgetFormer 5 = .ok (.aload_n 0, 1) := by decide +kernel
theorem dX1_forgetFormer_6 : decode cX1_forgetFormer 6 = .ok (.aconst_null, 1) := by decide +kernel
theorem dX1_forgetFormer_7 : decode cX1_forgetFormer 7 = .ok (.putfield 33, 3) := by decide +kernel
theorem dX1_forgetFormer_10 : decode cX1_forgetFormer 10 = .ok (.return_, 1) := by decide +kernel
theorem dX1_rememberFormer_0 : decode cX1_rememberFormer 0 = .ok (.aload_n 0, 1) := by decide +kernel
theorem dX1_rememberFormer_1 : decode cX1_rememberFormer 1 = .ok (.getfield 24, 3) := by decide +kernel
theorem dX1_rememberFormer_4 : decode cX1_rememberFormer 4 = .ok (.ifCond .ne 32, 3) := by decide +kernel
theorem dX1_rememberFormer_7 : decode cX1_rememberFormer 7 = .ok (.aload_n 0, 1) := by decide +kernel
theorem dX1_rememberFormer_8 : decode cX1_rememberFormer 8 = .ok (.iconst 1, 1) := by decide +kernel
theorem dX1_rememberFormer_9 : decode cX1_rememberFormer 9 = .ok (.putfield 24, 3) := by decide +kernel
theorem dX1_rememberFormer_12 : decode cX1_rememberFormer 12 = .ok (.aload_n 0, 1) := by decide +kernel
theorem dX1_rememberFormer_13 : decode cX1_rememberFormer 13 = .ok (.aload_n 0, 1) := by decide +kernel
theorem dX1_rememberFormer_14 : decode cX1_rememberFormer 14 = .ok (.getfield 12, 3) := by decide +kernel
theorem dX1_rememberFormer_17 : decode cX1_rememberFormer 17 = .ok (.putfield 27, 3) := by decide +kernel
theorem dX1_rememberFormer_20 : decode cX1_rememberFormer 20 = .ok (.aload_n 0, 1) := by decide +kernel
theorem dX1_rememberFormer_21 : decode cX1_rememberFormer 21 = .ok (.aload_n 0, 1) := by decide +kernel
theorem dX1_rememberFormer_22 : decode cX1_rememberFormer 22 = .ok (.getfield 16, 3) := by decide +kernel
theorem dX1_rememberFormer_25 : decode cX1_rememberFormer 25 = .ok (.putfield 30, 3) := by decide +kernel
theorem dX1_rememberFormer_28 : decode cX1_rememberFormer 28 = .ok (.aload_n 0, 1) := by decide +kernel
theorem dX1_rememberFormer_29 : decode cX1_rememberFormer 29 = .ok (.aload_n 0, 1) := by decide +kernel
theorem dX1_rememberFormer_30 : decode cX1_rememberFormer 30 = .ok (.getfield 20, 3) := by decide +kernel
theorem dX1_rememberFormer_33 : decode cX1_rememberFormer 33 = .ok (.putfield 33, 3) := by decide +kernel
theorem dX1_rememberFormer_36 : decode cX1_rememberFormer 36 = .ok (.return_, 1) := by decide +kernel
theorem dX2_init_0 : decode cX2_init 0 = .ok (.aload_n 0, 1) := by decide +kernel
theorem dX2_init_1 : decode cX2_init 1 = .ok (.invokespecial 1, 3) := by decide +kernel
theorem dX2_init_4 : decode cX2_init 4 = .ok (.return_, 1) := by decide +kernel
theorem dX2_isActive_0 : decode cX2_isActive 0 = .ok (.aload_n 0, 1) := by decide +kernel
theorem dX2_isActive_1 : decode cX2_isActive 1 = .ok (.getfield 7, 3) := by decide +kernel
theorem dX2_isActive_4 : decode cX2_isActive 4 = .ok (.ifCond .eq 7, 3) := by decide +kernel
theorem dX2_isActive_7 : decode cX2_isActive 7 = .ok (.iconst 1, 1) := by decide +kernel
theorem dX2_isActive_8 : decode cX2_isActive 8 = .ok (.goto 4, 3) := by decide +kernel
theorem dX2_isActive_11 : decode cX2_isActive 11 = .ok (.iconst 0, 1) := by decide +kernel
theorem dX2_isActive_12 : decode cX2_isActive 12 = .ok (.ireturn, 1) := by decide +kernel
end
section
/-! the world as a map from addresses to cells: rows over it; a contract's form -/
abbrev mw_G : Type := Nat → Option va_E
def mw_up (g : mw_G) (a : Nat) (e : va_E) : mw_G := fun q => if q = a then some e else g q
theorem mw_up_self (g : mw_G) (a : Nat) (e : va_E) : mw_up g a e a = some e := by simp [mw_up]
theorem mw_up_ne (g : mw_G) {a b : Nat} (e : va_E) (h : b ≠ a) : mw_up g a e b = g b := by simp [mw_up, h]
theorem mw_up_up (g : mw_G) (a : Nat) (e f : va_E) : mw_up (mw_up g a e) a f = mw_up g a f := by
  funext q
  by_cases h : q = a
  · simp [mw_up, h]
  · simp [mw_up, h]
theorem mw_up_id (g : mw_G) {a : Nat} {e : va_E} (h : g a = some e) : mw_up g a e = g := by
  funext q
  by_cases hq : q = a
  · subst hq; simp [mw_up, h]
  · simp [mw_up, hq]
def mw_pic (D : va_G) (cl : List vw_C) (g : mw_G) (H : Heap) : Prop := ∀ (a : Nat) (e : va_E), g a = some e → va_at D cl (a, e) H
def mw_in (A : Nat → Prop) (g : mw_G) : Prop := ∀ (a : Nat) (e : va_E), g a = some e → A a
def mw_A (g : mw_G) (sz : Nat) : Nat → Prop := fun q => (∃ e, g q = some e) ∨ sz ≤ q
/-- the world g in the heap H, all its cells of the kind A, which may change since H0 -/
def mw (D : va_G) (cl : List vw_C) (A : Nat → Prop) (H0 : Heap) (g : mw_G) (H : Heap) (locs : List Loc) : Prop := mw_pic D cl g H ∧ mw_in A g ∧ va_S A H0 H locs ∧ ∀ q : Nat, H0.size ≤ q → A q
theorem mw_pic.one {D : va_G} {cl : List vw_C} {g : mw_G} {H : Heap} {a : Nat} {e : va_E} (h : mw_pic D cl g H) (ha : g a = some e) : va_P D cl [(a, e)] H := by
  intro k q hk
  cases k with
  | zero => cases hk; exact h a e ha
  | succ k => simp at hk
theorem mw_pic.set {D : va_G} {cl : List vw_C} {g : mw_G} {H H1 : Heap} {a : Nat} {e : va_E} (h : mw_pic D cl g H) (he : va_at D cl (a, e) H1) (oq : ∀ q : Nat, q ≠ a → H1[q]? = H[q]?) : mw_pic D cl (mw_up g a e) H1 := by
  intro b x hb
  by_cases hba : b = a
  · subst hba
    rw [mw_up_self] at hb
    cases hb
    exact he
  · rw [mw_up_ne _ _ hba] at hb
    exact (h b x hb).kept (oq b hba)
theorem mw_pic.push {D : va_G} {cl : List vw_C} {g : mw_G} {H H1 : Heap} {e : va_E} (h : mw_pic D cl g H) (he : va_at D cl (H.size, e) H1) (oq : ∀ q : Nat, q < H.size → H1[q]? = H[q]?) : mw_pic D cl (mw_up g H.size e) H1 := by
  intro b x hb
  by_cases hba : b = H.size
  · subst hba
    rw [mw_up_self] at hb
    cases hb
    exact he
  · rw [mw_up_ne _ _ hba] at hb
    exact (h b x hb).kept (oq b (h b x hb).lt)
theorem mw_in.set {A : Nat → Prop} {g : mw_G} {a : Nat} {e : va_E} (h : mw_in A g) (ha : A a) : mw_in A (mw_up g a e) := by
  intro b x hb
  by_cases hba : b = a
  · subst hba; exact ha
  · rw [mw_up_ne _ _ hba] at hb
    exact h b x hb
theorem mw.put {D : va_G} {cl : List vw_C} {A : Nat → Prop} {H0 H H1 : Heap} {g : mw_G} {locs : List Loc} {a k : Nat} {e0 e : va_E} (h : mw D cl A H0 g H locs) (ha : g a = some e0) (he : va_at D cl (a, e) H1) (z : H1.size = H.size) (oq : ∀ q : Nat, q ≠ a → H1[q]? = H[q]?) : mw D cl A H0 (mw_up g a e) H1 (locs ++ [⟨a, k⟩]) :=
  ⟨h.1.set he oq, h.2.1.set (h.2.1 a e0 ha), h.2.2.1.put z oq (h.2.1 a e0 ha), h.2.2.2⟩
theorem mw.new {D : va_G} {cl : List vw_C} {A : Nat → Prop} {H0 H H1 : Heap} {g : mw_G} {locs : List Loc} {e : va_E} (h : mw D cl A H0 g H locs) (he : va_at D cl (H.size, e) H1) (z : H1.size = H.size + 1) (oq : ∀ q : Nat, q < H.size → H1[q]? = H[q]?) : mw D cl A H0 (mw_up g H.size e) H1 locs :=
  ⟨h.1.push he oq, h.2.1.set (h.2.2.2 _ h.2.2.1.1), ⟨Nat.le_trans h.2.2.1.1 (by omega), fun x h1 h2 => (oq x (Nat.lt_of_lt_of_le h1 h.2.2.1.1)).trans (h.2.2.1.2.1 x h1 h2), h.2.2.1.2.2⟩, h.2.2.2⟩
/-- a new address isn't in the world -/
theorem mw.fresh {D : va_G} {cl : List vw_C} {A : Nat → Prop} {H0 H : Heap} {g : mw_G} {locs : List Loc} (h : mw D cl A H0 g H locs) : g H.size = none := by
  cases hq : g H.size with
  | none => rfl
  | some e => exact absurd (h.1 _ _ hq).lt (Nat.lt_irrefl _)
theorem mw.sub {D : va_G} {cl : List vw_C} {A : Nat → Prop} {H0 H : Heap} {g : mw_G} {locs : List Loc} (h : mw D cl A H0 g H locs) : ∀ q, mw_A g H.size q → A q := by
  intro q hq
  rcases hq with ⟨e, hq⟩ | hq
  · exact h.2.1 q e hq
  · exact h.2.2.2 q (Nat.le_trans h.2.2.1.1 hq)
theorem mw_A.start (D : va_G) (cl : List vw_C) {g : mw_G} {H : Heap} (h : mw_pic D cl g H) : mw D cl (mw_A g H.size) H g H [] :=
  ⟨h, fun _ e ha => Or.inl ⟨e, ha⟩, va_S.rf, fun _ h => Or.inr h⟩
/-- what a throw needs beside a method's words: the statics of Throwable, the texts, the words that aren't steady -/
def mw_st (sx : List (String × Nat × String)) (nw : List Cond) (A : Nat → Prop) (U : State) (H : Heap) : Prop :=
  vx_Zq Bundle.tN "UNASSIGNED_STACK" Bundle.steD A U H ∧ vx_Zq Bundle.tN "SUPPRESSED_SENTINEL" Bundle.listD A U H ∧ (∀ q ∈ sx, ∃ sa, vk_R q.1 q.2.1 q.2.2 sa U) ∧ ∀ w ∈ nw, va_Nw w U
def mw_cd : Cond → Bool
  | .castable _ _ => true
  | .declares _ => true
  | .methodLinkNest _ _ _ _ => true
  | .arrayOver (.object _) => true
  | _ => false
theorem mw_nw {w : Cond} {s U : State} (h : mw_cd w = true) (hW : s.WarmedH U.vm) (hZ : va_Nw w s) : va_Nw w U := by
  unfold mw_cd at h
  split at h
  · exact va_Nw.warmC hW hZ
  · exact va_Nw.warmD hW hZ
  · exact va_Nw.warmM hW hZ
  · exact va_AO.moved hW.alike hZ
  · cases h
theorem mw_nb {w : Cond} {args : Array Value} {s : State} (h : mw_cd w = true) (hZ : va_Nw w s) : w.before args s = true := by
  unfold mw_cd at h
  split at h
  · exact va_Nw.use rfl hZ
  · exact va_Nw.use rfl hZ
  · exact va_Nw.use rfl hZ
  · exact va_AO.use hZ
  · cases h
theorem mw_st.go {sx : List (String × Nat × String)} {nw : List Cond} {A B : Nat → Prop} {s U : State} {H H1 : Heap} (hcd : ∀ w ∈ nw, mw_cd w = true) (h : mw_st sx nw A s H) (hW : s.WarmedH U.vm) (hq : ∀ a : Nat, a < H.size → ¬ A a → H1[a]? = H[a]?) (hAB : ∀ q, B q → A q) : mw_st sx nw B U H1 :=
  ⟨vx_Zq.moved hW.alike ((h.1.kept hq).narrow hAB), vx_Zq.moved hW.alike ((h.2.1.kept hq).narrow hAB), fun q hq => by
    obtain ⟨sa, h1⟩ := h.2.2.1 q hq
    exact ⟨sa, vk_R.warm hW h1⟩, fun w hw => mw_nw (hcd w hw) hW (h.2.2.2 w hw)⟩
/-- a method's start and ends over a map -/
def mw_Pc (D : va_G) (cl : List vw_C) (tys : List (ClassId × FieldType)) (sx : List (String × Nat × String)) (nw : List Cond) (g : mw_G) (sz : Nat) (av : List Value) : Array Value → State → Prop :=
  va_Pc av (fun U => U.heap.size = sz ∧ mw_pic D cl g U.heap ∧ va_K D cl tys U ∧ mw_st sx nw (mw_A g sz) U U.heap)
def mw_Qc (D : va_G) (cl : List vw_C) (g : mw_G) (sz : Nat) (post : Option Value → mw_G → Prop) : Array Value → State → Outcome → State → Prop := fun _ st oc t =>
  ∃ (v : Option Value) (g' : mw_G), oc = .returned v ∧ post v g' ∧ mw_pic D cl g' t.heap ∧ mw_in (mw_A g sz) g' ∧ va_F (mw_A g sz) st t
def mw_Xc (D : va_G) (cl : List vw_C) (g : mw_G) (sz : Nat) (px : String → mw_G → Prop) : String → State → State → Prop := fun E st t =>
  ∃ g' : mw_G, px E g' ∧ mw_pic D cl g' t.heap ∧ mw_in (mw_A g sz) g' ∧ va_F (mw_A g sz) st t
def mw_Met (l : Launch) (y : MethodName) (ws : List Cond) (rm : Room) (D : va_G) (cl : List vw_C) (tys : List (ClassId × FieldType)) (sx : List (String × Nat × String)) (nw : List Cond) (g : mw_G) (sz : Nat) (av : List Value) (post : Option Value → mw_G → Prop) (px : String → mw_G → Prop) : Prop :=
  vx_Met l y ws rm (mw_Pc D cl tys sx nw g sz av) (mw_Qc D cl g sz post) (mw_Xc D cl g sz px) rm.cells rm.slots (mw_A g sz)
theorem mw_blind {D : va_G} {cl : List vw_C} {tys : List (ClassId × FieldType)} {sx : List (String × Nat × String)} {nw : List Cond} {g : mw_G} {sz : Nat} {av : List Value} (hcd : ∀ w ∈ nw, mw_cd w = true) : FrameBlind (mw_Pc D cl tys sx nw g sz av) := by
  intro a U f mk q
  obtain ⟨q0, q1, q2, q3, q4⟩ := q
  exact ⟨q0, q1, q2, va_K.moved (u := U) (U := U.calling f mk a) (Vm.Alike.refl U.vm) q3, mw_st.go (U := U.calling f mk a) hcd q4 (State.WarmedH.refl U) (fun _ _ _ => rfl) (fun _ h => h)⟩
section MWR
variable {p : Program} {l : Launch} {e : Env} {R : Room} {s : State} {m : MethodId} {args : Array Value} {below : List Frame} {meth : Method} {c : Code} {H : Heap} {locs : List Loc} {cells slots : Nat} {Q : State → Prop}
variable {cc : ByteArray} {pc nL : Nat} {ls : Array Slot} {rest : List Value} {D : va_G} {cl : List vw_C} {tys : List (ClassId × FieldType)} {sx : List (String × Nat × String)} {nw : List Cond} {A : Nat → Prop} {g : mw_G} {a : Nat} {Ts : List Cond} {own : String}
/-- a method's frame: machine, code, own class, words, tables, what a throw needs -/
def mx (D : va_G) (cl : List vw_C) (tys : List (ClassId × FieldType)) (sx : List (String × Nat × String)) (nw : List Cond) (A : Nat → Prop) (p : Program) (m : MethodId) (c : Code) (cc : ByteArray) (nL : Nat) (s : State) (args : Array Value) (Ts : List Cond) (own : String) : Prop :=
  CallFix p m c cc nL s args Ts own ∧ va_K D cl tys s ∧ mw_st sx nw A s s.heap ∧ ∀ w ∈ nw, mw_cd w = true
/-- field k of class C (table T of N fields, number ci), linked at index -/
def mw_F (Ts : List Cond) (cl : List vw_C) (own : String) (index ci k : Nat) (C : String) (T : u_T) (N : Nat) : Prop :=
  (∀ w ∈ u_ws C T N, w ∈ Ts) ∧ cl[ci]? = some (C, T, N) ∧ k < N ∧ Cond.fieldLink own index C (T k).2.1 (T k).2.2.1 ∈ Ts ∧ (T k).1 = C
theorem mw_get (hC : mx D cl tys sx nw A p m c cc nL s args Ts own) (hM : mw D cl A s.heap g H locs) {C : String} {T : u_T} {N ci index k : Nat} {fs : List Value} {v : Value} (ha : g a = some (.inr (ci, fs))) (hw : mw_F Ts cl own index ci k C T N) (hv : fs[k]? = some v) (hdg : decode cc pc = .ok (.getfield index, 3))
    (kk : W p l e R s m args below meth c H locs cells slots Q (F0 m (pc + 3) ls (v :: rest))) : W p l e R s m args below meth c H locs cells slots Q (F0 m pc ls (.ref a :: rest)) := by
  obtain ⟨⟨hx, hb, -, hown, hts⟩, hK, -⟩ := hC
  obtain ⟨hin, hc, hk, hl, hr⟩ := hw
  exact va_get hx hb hts hin hown hK (hM.1.one ha) 0 rfl hc k hk (hts _ hl) (fun x h => by rw [hr] at h; exact h) hv hdg kk
/-- what a store into the field needs of the table -/
def mw_Fp (T : u_T) (N k : Nat) (ty0 : Nat → FieldType) (ty : FieldType) : Prop :=
  (∀ j, j < N → parseFieldDescriptor (T j).2.2.1 = some (ty0 j)) ∧ (∀ a, a < N → ∀ b, b < N → a ≠ b → (T a).2.1 ≠ (T b).2.1) ∧ parseFieldDescriptor (T k).2.2.1 = some ty
theorem mw_put (hC : mx D cl tys sx nw A p m c cc nL s args Ts own) (hM : mw D cl A s.heap g H locs) {C : String} {T : u_T} {N ci index k : Nat} {fs : List Value} {v : Value} {ty0 : Nat → FieldType} {ty : FieldType} (ha : g a = some (.inr (ci, fs))) (hw : mw_F Ts cl own index ci k C T N) (hp : mw_Fp T N k ty0 ty) (hfin : (T k).2.2.2 = false) (hn : narrow ty v = v) (hfit : fits ty v = true) (hl : k < fs.length) (hdg : decode cc pc = .ok (.putfield index, 3))
    (kk : ∀ (H1 : Heap) (locs1 : List Loc), mw D cl A s.heap (mw_up g a (.inr (ci, fs.set k v))) H1 locs1 → W p l e R s m args below meth c H1 locs1 cells slots Q (F0 m (pc + 3) ls rest)) : W p l e R s m args below meth c H locs cells slots Q (F0 m pc ls (v :: .ref a :: rest)) := by
  obtain ⟨⟨hx, hb, -, hown, hts⟩, hK, -⟩ := hC
  obtain ⟨hin, hc, hk, hlk, hr⟩ := hw
  obtain ⟨hty, hnm, hd⟩ := hp
  have hap := va_apart (own := own) hts hin ty0 hty hnm hK hc
  obtain ⟨r, h1, cell, q1, q2, q3, q4⟩ := hM.1 _ _ ha
  have hr' : r = (C, T, N) := Option.some.inj (h1.symm.trans hc)
  subst hr'
  obtain ⟨hS, hfc, kC, hkC, hkind⟩ := hK.1 ci _ hc
  obtain ⟨cf, kf, fi, f, hi, hsl⟩ := hS k hk
  have hlay := hts _ (hin _ (u_in_lay hk))
  unfold u_lay at hlay
  rw [if_neg (by rw [hfin]; decide)] at hlay
  have hst := (u_facts hfc hkC (u_lays hts hin hk) hi).1
  have h6 := u_store hfc hkC hkind hlay hi hd hn hfit
  refine W.putK hx hb (f := f) ⟨hown, hts _ hlk, ⟨_, _, _, by rw [hr] at hi; exact hi⟩, hst⟩ (by rw [q2]; exact h6) q1 q3 (by rw [hsl]; exact k2_hasslot (q4 k hk)) rfl rfl hdg fun H' e1 e2 e3 => ?_
  rw [hsl] at e1 ⊢
  exact kk H' _ (hM.put ha ⟨_, hc, t_OB.to (V := updV (vp_V fs) k v) ⟨_, e1, q2, q3, t_set q4 hap hk v⟩ (fun j _ => vp_updV_set hl v j)⟩ e2 e3)
theorem mw_putF (hC : mx D cl tys sx nw A p m c cc nL s args Ts own) (hM : mw D cl A s.heap g H locs) {C : String} {T : u_T} {N ci index k : Nat} {fs : List Value} {v : Value} {ty0 : Nat → FieldType} {ty : FieldType} (ha : g a = some (.inr (ci, fs))) (hw : mw_F Ts cl own index ci k C T N) (hp : mw_Fp T N k ty0 ty) (hfin : (T k).2.2.2 = true) (hin2 : meth.name = "<init>") (hdecl : C = own) (hn : narrow ty v = v) (hfit : fits ty v = true) (hl : k < fs.length) (hdg : decode cc pc = .ok (.putfield index, 3))
    (kk : ∀ (H1 : Heap) (locs1 : List Loc), mw D cl A s.heap (mw_up g a (.inr (ci, fs.set k v))) H1 locs1 → W p l e R s m args below meth c H1 locs1 cells slots Q (F0 m (pc + 3) ls rest)) : W p l e R s m args below meth c H locs cells slots Q (F0 m pc ls (v :: .ref a :: rest)) := by
  obtain ⟨⟨hx, hb, -, hown, hts⟩, hK, -⟩ := hC
  obtain ⟨hin, hc, hk, hlk, hr⟩ := hw
  obtain ⟨hty, hnm, hd⟩ := hp
  have hap := va_apart (own := own) hts hin ty0 hty hnm hK hc
  obtain ⟨r, h1, cell, q1, q2, q3, q4⟩ := hM.1 _ _ ha
  have hr' : r = (C, T, N) := Option.some.inj (h1.symm.trans hc)
  subst hr'
  obtain ⟨hS, hfc, kC, hkC, hkind⟩ := hK.1 ci _ hc
  obtain ⟨cf, kf, fi, f, hi, hsl⟩ := hS k hk
  have hlay := hts _ (hin _ (u_in_lay hk))
  unfold u_lay at hlay
  rw [if_pos hfin] at hlay
  have hst := (u_facts hfc hkC (u_lays hts hin hk) hi).1
  have hcf : m.cls = cf := by
    obtain ⟨_, _, c', _, _, _, -, -, hf', -, -, -, hown2, -⟩ := Cond.laysFinal_spec hlay
    have e1 : c' = cf := by have := hi.symm.trans hf'; simp at this; exact this.1.symm
    rw [hr, hdecl] at hown2
    rw [← e1]; exact Option.some.inj (hown.symm.trans hown2)
  have h6 := u_fits hfc hkC hkind (Or.inr hlay) hi hd hn hfit
  refine W.putFinK hx hb hown (hts _ hlk) (by rw [hr] at hi; exact hi) hst hcf hin2 (by rw [q2]; exact h6) q1 q3 (by rw [hsl]; exact k2_hasslot (q4 k hk)) rfl rfl hdg fun H' e1 e2 e3 => ?_
  rw [hsl] at e1 ⊢
  exact kk H' _ (hM.put ha ⟨_, hc, t_OB.to (V := updV (vp_V fs) k v) ⟨_, e1, q2, q3, t_set q4 hap hk v⟩ (fun j _ => vp_updV_set hl v j)⟩ e2 e3)
/-- an array of references, of n places -/
abbrev mw_aq (cA : ClassId) (n : Nat) (f : Nat → Option Nat) : va_E := .inl (cA, n, .inr (.inr (.inr (.inr f))))
abbrev mw_ai (cA : ClassId) (n : Nat) (f : Nat → Int32) : va_E := .inl (cA, n, .inl f)
abbrev mw_al (cA : ClassId) (n : Nat) (f : Nat → Int64) : va_E := .inl (cA, n, .inr (.inl f))
theorem mw_alen (hC : mx D cl tys sx nw A p m c cc nL s args Ts own) (hM : mw D cl A s.heap g H locs) (t0 : Nat) {cA : ClassId} {x : vp_A} (ha : g a = some (.inl (cA, x))) {ty : FieldType} (ht : tys[t0]? = some (cA, ty)) {v : Int32} (hv : Int32.ofNat x.1 = v) (hdg : decode cc pc = .ok (.arraylength, 1))
    (kk : W p l e R s m args below meth c H locs cells slots Q (F0 m (pc + 1) ls (.int v :: rest))) : W p l e R s m args below meth c H locs cells slots Q (F0 m pc ls (.ref a :: rest)) :=
  va_alen hC.1.1 hC.1.2.1 hC.2.1 (hM.1.one ha) 0 t0 rfl ht hv hdg kk
theorem mw_aldq (hC : mx D cl tys sx nw A p m c cc nL s args Ts own) (hM : mw D cl A s.heap g H locs) (t0 : Nat) {cA : ClassId} {C : String} {n : Nat} {f : Nat → Option Nat} (ha : g a = some (mw_aq cA n f)) (ht : tys[t0]? = some (cA, .object C)) {i : Int32} (hin : vp_in i n) (hdg : decode cc pc = .ok (.aaload, 1))
    (kk : W p l e R s m args below meth c H locs cells slots Q (F0 m (pc + 1) ls (va_rf (f i.toNatClampNeg) :: rest))) : W p l e R s m args below meth c H locs cells slots Q (F0 m pc ls (.int i :: .ref a :: rest)) :=
  va_aldq hC.1.1 hC.1.2.1 hC.2.1 (hM.1.one ha) 0 t0 rfl ht hin hdg kk
theorem mw_iald (hC : mx D cl tys sx nw A p m c cc nL s args Ts own) (hM : mw D cl A s.heap g H locs) (t0 : Nat) {cA : ClassId} {n : Nat} {f : Nat → Int32} (ha : g a = some (mw_ai cA n f)) (ht : tys[t0]? = some (cA, .int)) {i : Int32} (hin : vp_in i n) (hdg : decode cc pc = .ok (.iaload, 1))
    (kk : W p l e R s m args below meth c H locs cells slots Q (F0 m (pc + 1) ls (.int (f i.toNatClampNeg) :: rest))) : W p l e R s m args below meth c H locs cells slots Q (F0 m pc ls (.int i :: .ref a :: rest)) :=
  va_iald hC.1.1 hC.1.2.1 hC.2.1 (hM.1.one ha) 0 t0 rfl ht hin hdg kk
theorem mw_zald (hC : mx D cl tys sx nw A p m c cc nL s args Ts own) (hM : mw D cl A s.heap g H locs) (t0 : Nat) {cA : ClassId} {n : Nat} {f : Nat → Int32} (ha : g a = some (mw_ai cA n f)) (ht : tys[t0]? = some (cA, .boolean)) {i : Int32} (hin : vp_in i n) (hdg : decode cc pc = .ok (.baload, 1))
    (kk : W p l e R s m args below meth c H locs cells slots Q (F0 m (pc + 1) ls (.int (f i.toNatClampNeg) :: rest))) : W p l e R s m args below meth c H locs cells slots Q (F0 m pc ls (.int i :: .ref a :: rest)) :=
  va_zald hC.1.1 hC.1.2.1 hC.2.1 (hM.1.one ha) 0 t0 rfl ht hin hdg kk
theorem mw_lald (hC : mx D cl tys sx nw A p m c cc nL s args Ts own) (hM : mw D cl A s.heap g H locs) (t0 : Nat) {cA : ClassId} {n : Nat} {f : Nat → Int64} (ha : g a = some (mw_al cA n f)) (ht : tys[t0]? = some (cA, .long)) {i : Int32} (hin : vp_in i n) (hdg : decode cc pc = .ok (.laload, 1))
    (kk : W p l e R s m args below meth c H locs cells slots Q (F0 m (pc + 1) ls (.long (f i.toNatClampNeg) :: rest))) : W p l e R s m args below meth c H locs cells slots Q (F0 m pc ls (.int i :: .ref a :: rest)) :=
  va_lald hC.1.1 hC.1.2.1 hC.2.1 (hM.1.one ha) 0 t0 rfl ht hin hdg kk
theorem mw_astq (hC : mx D cl tys sx nw A p m c cc nL s args Ts own) (hM : mw D cl A s.heap g H locs) (t0 ci : Nat) {cA : ClassId} {r : vw_C} {n v : Nat} {vs : List Value} {f : Nat → Option Nat} (ha : g a = some (mw_aq cA n f)) (ht : tys[t0]? = some (cA, .object r.1)) (hv : g v = some (.inr (ci, vs))) (hc : cl[ci]? = some r) {i : Int32} (hin : vp_in i n) (hdg : decode cc pc = .ok (.aastore, 1))
    (kk : ∀ (H1 : Heap) (locs1 : List Loc), mw D cl A s.heap (mw_up g a (mw_aq cA n (va_up f i.toNatClampNeg (some v)))) H1 locs1 → W p l e R s m args below meth c H1 locs1 cells slots Q (F0 m (pc + 1) ls rest)) : W p l e R s m args below meth c H locs cells slots Q (F0 m pc ls (.ref v :: .int i :: .ref a :: rest)) := by
  have hlt : i.toNatClampNeg < n := Nat.not_le.mp fun q => hin (Or.inr q)
  have h0 : ¬ i < 0 := fun q => hin (Or.inl q)
  have hK := hC.2.1
  obtain ⟨r', hr', cellV, g1, g2, g3, -⟩ := hM.1 _ _ hv
  have hcls := (hK.1 ci r hc).2
  obtain ⟨kA, comp, k1, k2, k3, -⟩ := (hK.2 t0 _ ht).2
  have hcomp : comp = D.1 ci := Option.some.inj (k3.symm.trans hcls.1)
  subst hcomp
  obtain ⟨kC, hkC, -⟩ := hcls.2
  refine W.aast hC.1.1 hC.1.2.1 (hM.1 _ _ ha) (fun q h => by cases h) (fun h => by cases h) k1 k2 rfl hkC ⟨h0, by show _ < (arrV _ _ _).slots.size; rw [arrV_size]; exact hlt⟩ g1 (fun q h => by rw [g3] at h; cases h) (by rw [g2]; exact hkC) (by rw [g2]; exact va_assign hcls) rfl rfl hdg fun H1 e z oq => ?_
  refine kk H1 _ (hM.put ha ?_ z oq)
  show H1[a]? = some (vp_cell _ _)
  rw [e]
  rw [vp_cell_q, vp_cell_q, arrV_store]
  congr 2
  funext q
  by_cases hq : q = i.toNatClampNeg
  · subst hq
    simp [updV, va_up, va_rf]
  · simp [updV, va_up, hq]
theorem mw_iast (hC : mx D cl tys sx nw A p m c cc nL s args Ts own) (hM : mw D cl A s.heap g H locs) (t0 : Nat) {cA : ClassId} {n : Nat} {f : Nat → Int32} (ha : g a = some (mw_ai cA n f)) (ht : tys[t0]? = some (cA, .int)) {i x : Int32} (hin : vp_in i n) (hdg : decode cc pc = .ok (.iastore, 1))
    (kk : ∀ (H1 : Heap) (locs1 : List Loc), mw D cl A s.heap (mw_up g a (mw_ai cA n (upd f i.toNatClampNeg x))) H1 locs1 → W p l e R s m args below meth c H1 locs1 cells slots Q (F0 m (pc + 1) ls rest)) : W p l e R s m args below meth c H locs cells slots Q (F0 m pc ls (.int x :: .int i :: .ref a :: rest)) := by
  refine W.iast hC.1.1 hC.1.2.1 (hM.1 _ _ ha) ((hC.2.1.2 t0 _ ht).1 n (fun j => .int (f j))) (fun q => by cases q) (by show ¬ (i < 0 ∨ (arrV _ _ _).slots.size ≤ _); rw [arrV_size]; exact hin) rfl rfl hdg fun H1 e z oq => ?_
  refine kk H1 _ (hM.put ha ?_ z oq)
  show H1[a]? = some (vp_cell _ _)
  rw [e]
  rw [vp_cell_i, vp_cell_i, arrV_store]
  congr 2
  funext q
  by_cases hq : q = i.toNatClampNeg
  · subst hq
    simp [updV, upd]
  · simp [updV, upd, hq]
theorem mw_last (hC : mx D cl tys sx nw A p m c cc nL s args Ts own) (hM : mw D cl A s.heap g H locs) (t0 : Nat) {cA : ClassId} {n : Nat} {f : Nat → Int64} (ha : g a = some (mw_al cA n f)) (ht : tys[t0]? = some (cA, .long)) {i : Int32} {x : Int64} (hin : vp_in i n) (hdg : decode cc pc = .ok (.lastore, 1))
    (kk : ∀ (H1 : Heap) (locs1 : List Loc), mw D cl A s.heap (mw_up g a (mw_al cA n (vp_updL f i.toNatClampNeg x))) H1 locs1 → W p l e R s m args below meth c H1 locs1 cells slots Q (F0 m (pc + 1) ls rest)) : W p l e R s m args below meth c H locs cells slots Q (F0 m pc ls (.long x :: .int i :: .ref a :: rest)) := by
  refine W.last hC.1.1 hC.1.2.1 (hM.1 _ _ ha) ((hC.2.1.2 t0 _ ht).1 n (fun j => .long (f j))) (fun q => by cases q) (by show ¬ (i < 0 ∨ (arrV _ _ _).slots.size ≤ _); rw [arrV_size]; exact hin) rfl rfl hdg fun H1 e z oq => ?_
  refine kk H1 _ (hM.put ha ?_ z oq)
  show H1[a]? = some (vp_cell _ _)
  rw [e]
  rw [vp_cell_l, vp_cell_l, arrV_store]
  congr 2
  funext q
  by_cases hq : q = i.toNatClampNeg
  · subst hq
    simp [updV, vp_updL]
  · simp [updV, vp_updL, hq]
theorem mw_new (hC : mx D cl tys sx nw A p m c cc nL s args Ts own) (hM : mw D cl A s.heap g H locs) {C : String} {T : u_T} {N ci index : Nat} {ty : Nat → FieldType} {fs : List Value} (hw : (∀ w ∈ u_ws C T N, w ∈ Ts) ∧ (∀ k, k < N → parseFieldDescriptor (T k).2.2.1 = some (ty k)) ∧ Cond.classLink own index C ∈ Ts ∧ Cond.instantiable C N ∈ Ts ∧ Cond.initialized C ∈ Ts ∧ cl[ci]? = some (C, T, N)) (hfs : ∀ j, j < N → defaultValue (ty j) = vp_V fs j) (hcells : cells + 1 ≤ R.cells) (hslots : slots + N ≤ R.slots) (hdg : decode cc pc = .ok (.new index, 3))
    (kk : ∀ (q : Nat) (H1 : Heap), g q = none → mw D cl A s.heap (mw_up g q (.inr (ci, fs))) H1 locs → W p l e R s m args below meth c H1 locs (cells + 1) (slots + N) Q (F0 m (pc + 3) ls (.ref q :: rest))) : W p l e R s m args below meth c H locs cells slots Q (F0 m pc ls rest) := by
  obtain ⟨⟨hx, hb, -, hown, hts⟩, hK, -⟩ := hC
  obtain ⟨hin, hty, h1, h2, h3, hc⟩ := hw
  have hKn := hK.1 ci _ hc
  refine W.newcK hx hb hown (hts _ h1) (hts _ h2) (hts _ h3) rfl hdg hcells hslots hKn.2.1 rfl fun H1 kC hkC e1 z1 o1 => ?_
  exact kk H.size H1 hM.fresh (hM.new ⟨_, hc, (u_born ty hts hin hKn hkC e1 hty).to hfs⟩ z1 o1)
theorem mw_newq (hC : mx D cl tys sx nw A p m c cc nL s args Ts own) (hM : mw D cl A s.heap g H locs) (t0 : Nat) {C : String} {index : Nat} {cA : ClassId} (h1 : Cond.classLink own index C ∈ Ts) (h2 : Cond.arrayOver (.object C) ∈ nw) (ht : tys[t0]? = some (cA, .object C)) {n : Int32} {N' : Nat} (hn : ¬ n < 0) (hN : n.toNatClampNeg = N') (hbytes : N' * 4 ≤ 536870912) (hcells : cells + 1 ≤ R.cells) (hslots : slots + N' ≤ R.slots) (hdg : decode cc pc = .ok (.anewarray index, 3))
    (kk : ∀ (q : Nat) (H1 : Heap), g q = none → mw D cl A s.heap (mw_up g q (mw_aq cA N' (fun _ => none))) H1 locs → W p l e R s m args below meth c H1 locs (cells + 1) (slots + N') Q (F0 m (pc + 3) ls (.ref q :: rest))) : W p l e R s m args below meth c H locs cells slots Q (F0 m pc ls (.int n :: rest)) := by
  have hov : va_AO C s := hC.2.2.1.2.2.2 _ h2
  obtain ⟨⟨hx, hb, -, hown, hts⟩, hK, -⟩ := hC
  subst hN
  refine W.anew hx hb hown (hts _ h1) (va_AO.use hov) rfl hdg rfl hn hbytes hcells hslots fun cA' kA comp f1 f2 f3 f4 => ?_
  obtain ⟨kA2, comp2, -, -, -, k4⟩ := (hK.2 t0 _ ht).2
  have hcA : cA' = cA := Option.some.inj (f1.symm.trans k4)
  subst hcA
  generalize hH1 : H.push ({ cls := cA', slots := Array.replicate n.toNatClampNeg .null, vm := .none } : Cell) = H1
  have z1 : H1.size = H.size + 1 := by rw [← hH1, Array.size_push]
  have e1 : H1[H.size]? = some (arrV cA' n.toNatClampNeg (fun _ => .null)) := by rw [← hH1, Array.getElem?_push_size, ← arrV_new]
  have o1 : ∀ q : Nat, q < H.size → H1[q]? = H[q]? := fun q hq => by rw [← hH1, Array.getElem?_push, if_neg (Nat.ne_of_lt hq)]
  refine kk H.size H1 hM.fresh (hM.new ?_ z1 o1)
  show H1[H.size]? = some (vp_cell _ _)
  rw [vp_cell_q]
  exact e1
theorem mw_pre (hC : mx D cl tys sx nw A p m c cc nL s args Ts own) (hM : mw D cl A s.heap g H locs) {av : List Value} : ∀ U : State, U.heap = H → s.WarmedH U.vm → mw_Pc D cl tys sx nw g H.size av av.toArray U := by
  intro U hU hW
  refine ⟨rfl, by rw [hU], by rw [hU]; exact hM.1, va_K.moved hW.alike hC.2.1, ?_⟩
  rw [hU]
  exact mw_st.go hC.2.2.2 hC.2.2.1 hW (fun q h1 h2 => hM.2.2.1.2.1 q h1 h2) hM.sub
theorem mw_call {mc ms : Nat} {st0 : List Value} {a9 : Array Value} {post : Option Value → mw_G → Prop} {px : String → mw_G → Prop} (hM : mw D cl A s.heap g H locs)
    (hr : vx_Run p l e R s m args below meth c H locs cells slots mc ms (F0 m pc ls st0) rest (mw_Qc D cl g H.size post a9) (mw_Xc D cl g H.size px) (mw_A g H.size))
    (kx : ∀ (E : String) (ce : Cell) (q9 : Addr) (g' : mw_G) (H1 : Heap) (locs1 : List Loc), px E g' → mw D cl A s.heap g' H1 locs1 → H1[q9]? = some ce → ce.vm = .none → s.vm.findClass E = some ce.cls → vx_W p l e R s m args below meth c H1 locs1 (cells + mc) (slots + ms) Q (F0 m pc ls rest) q9)
    (kk : ∀ (v : Option Value) (g' : mw_G) (H1 : Heap) (locs1 : List Loc), post v g' → mw D cl A s.heap g' H1 locs1 → W p l e R s m args below meth c H1 locs1 (cells + mc) (slots + ms) Q (F0 m (pc + 3) ls (v.toList ++ rest))) : W p l e R s m args below meth c H locs cells slots Q (F0 m pc ls st0) := by
  intro T hT X
  rcases hr T hT X with ⟨v, st₀, t, T', L, h0, X', hL, e1, e2, ⟨v', g', hv, hp, hpic, hin, hF⟩, st⟩ | ⟨q, st₀, t, T', L, E, ce, h0, X', hL, e1, e2, ⟨g', hp, hpic, hin, hF⟩, hce, hcv, hcl, st⟩
  · have hv' := Outcome.returned.inj hv
    subst hv'
    obtain ⟨k1, k2, k3⟩ := vx_keep h0 e1 hM.2.2.1 (fun q _ h => hM.sub q h) (fun q h => hM.sub q h) hL hF
    obtain ⟨t2, a1, b1⟩ := kk v g' T'.heap (locs ++ L) hp ⟨by rw [e1]; exact hpic, fun a e h => hM.sub _ (hin a e h), k3, hM.2.2.2⟩ T' rfl X'
    exact ⟨t2, st t2 a1, b1⟩
  · obtain ⟨k1, k2, k3⟩ := vx_keep h0 e1 hM.2.2.1 (fun q _ h => hM.sub q h) (fun q h => hM.sub q h) hL hF
    obtain ⟨t2, a1, b1⟩ := kx E ce q g' T'.heap (locs ++ L) hp ⟨by rw [e1]; exact hpic, fun a e h => hM.sub _ (hin a e h), k3, hM.2.2.2⟩ (by rw [e1]; exact hce) hcv hcl T' rfl X'
    exact ⟨t2, st.trans a1, b1⟩
theorem mw_callV (hC : mx D cl tys sx nw A p m c cc nL s args Ts own) (hM : mw D cl A s.heap g H locs) {y : MethodName} {ws : List Cond} {rm : Room} {As : List Value} {post : Option Value → mw_G → Prop} {px : String → mw_G → Prop} {b index n maxL : Nat} {bytes : ByteArray} {ret : Option FieldType} {C : String} {T : u_T} {N ci : Nat} {fs st0 : List Value}
    (hMet : mw_Met l y ws rm D cl tys sx nw g H.size (.ref b :: As) post px) (cw : CallW R s args own C index y bytes maxL ret ws rm rm.cells rm.slots n) (hb : g b = some (.inr (ci, fs))) (hc : cl[ci]? = some (C, T, N)) (hn : As.length = n) (hst : st0 = As.reverse ++ .ref b :: rest) (hsize : ls.size = nL) (hroom : (rest.map fun v => v.category).sum ≤ 8) (hdg : decode cc pc = .ok (.invokevirtual index, 3)) (hf : cells + rm.cells ≤ R.cells ∧ slots + rm.slots ≤ R.slots)
    (kx : ∀ (E : String) (ce : Cell) (q9 : Addr) (g' : mw_G) (H1 : Heap) (locs1 : List Loc), px E g' → mw D cl A s.heap g' H1 locs1 → H1[q9]? = some ce → ce.vm = .none → s.vm.findClass E = some ce.cls → vx_W p l e R s m args below meth c H1 locs1 (cells + rm.cells) (slots + rm.slots) Q (F0 m pc ls rest) q9)
    (kk : ∀ (v : Option Value) (g' : mw_G) (H1 : Heap) (locs1 : List Loc), post v g' → mw D cl A s.heap g' H1 locs1 → W p l e R s m args below meth c H1 locs1 (cells + rm.cells) (slots + rm.slots) Q (F0 m (pc + 3) ls (v.toList ++ rest))) : W p l e R s m args below meth c H locs cells slots Q (F0 m pc ls st0) :=
  mw_call hM (vx_runV hC.1 hMet cw ⟨mw_blind hC.2.2.2, va_recv hC.2.1 (hM.1.one hb) hc (q0 := 0) rfl, mw_pre hC hM⟩ rfl hn hsize hst (lv_room hroom) hdg hf) kx kk
theorem mw_callS (hC : mx D cl tys sx nw A p m c cc nL s args Ts own) (hM : mw D cl A s.heap g H locs) {y : MethodName} {ws : List Cond} {rm : Room} {As : List Value} {post : Option Value → mw_G → Prop} {px : String → mw_G → Prop} {index n maxL : Nat} {bytes : ByteArray} {ret : Option FieldType} {st0 : List Value}
    (hMet : mw_Met l y ws rm D cl tys sx nw g H.size As post px) (cw : CallB R s args own index y bytes maxL ret ws rm rm.cells rm.slots n ∧ (Cond.static y).before args s = true) (hn : As.length = n) (hst : st0 = As.reverse ++ rest) (hsize : ls.size = nL) (hroom : (rest.map fun v => v.category).sum ≤ 8) (hdg : decode cc pc = .ok (.invokestatic index, 3)) (hf : cells + rm.cells ≤ R.cells ∧ slots + rm.slots ≤ R.slots)
    (kx : ∀ (E : String) (ce : Cell) (q9 : Addr) (g' : mw_G) (H1 : Heap) (locs1 : List Loc), px E g' → mw D cl A s.heap g' H1 locs1 → H1[q9]? = some ce → ce.vm = .none → s.vm.findClass E = some ce.cls → vx_W p l e R s m args below meth c H1 locs1 (cells + rm.cells) (slots + rm.slots) Q (F0 m pc ls rest) q9)
    (kk : ∀ (v : Option Value) (g' : mw_G) (H1 : Heap) (locs1 : List Loc), post v g' → mw D cl A s.heap g' H1 locs1 → W p l e R s m args below meth c H1 locs1 (cells + rm.cells) (slots + rm.slots) Q (F0 m (pc + 3) ls (v.toList ++ rest))) : W p l e R s m args below meth c H locs cells slots Q (F0 m pc ls st0) :=
  mw_call hM (vx_runS hC.1 hMet cw ⟨mw_blind hC.2.2.2, mw_pre hC hM⟩ rfl hn hsize hst (lv_room hroom) hdg hf) kx kk
/-- a constructor: it doesn't throw -/
def mw_MetI (l : Launch) (y : MethodName) (ws : List Cond) (rm : Room) (D : va_G) (cl : List vw_C) (tys : List (ClassId × FieldType)) (sx : List (String × Nat × String)) (nw : List Cond) (g : mw_G) (sz : Nat) (av : List Value) (post : Option Value → mw_G → Prop) : Prop :=
  Met l y ws rm (mw_Pc D cl tys sx nw g sz av) (mw_Qc D cl g sz post) rm.cells rm.slots (mw_A g sz)
theorem mw_callI (hC : mx D cl tys sx nw A p m c cc nL s args Ts own) (hM : mw D cl A s.heap g H locs) {y : MethodName} {ws : List Cond} {rm : Room} {As : List Value} {post : Option Value → mw_G → Prop} {b index n maxL : Nat} {bytes : ByteArray} {st0 : List Value}
    (hMet : mw_MetI l y ws rm D cl tys sx nw g H.size (.ref b :: As) post) (cw : CallB R s args own index y bytes maxL none ws rm rm.cells rm.slots n ∧ y.name = "<init>" ∧ (Cond.instanceMethod y).before args s = true) (hn : As.length = n) (hst : st0 = As.reverse ++ .ref b :: rest) (hsize : ls.size = nL) (hroom : (rest.map fun v => v.category).sum ≤ 8) (hdg : decode cc pc = .ok (.invokespecial index, 3)) (hf : cells + rm.cells ≤ R.cells ∧ slots + rm.slots ≤ R.slots)
    (kk : ∀ (v : Option Value) (g' : mw_G) (H1 : Heap) (locs1 : List Loc), post v g' → mw D cl A s.heap g' H1 locs1 → W p l e R s m args below meth c H1 locs1 (cells + rm.cells) (slots + rm.slots) Q (F0 m (pc + 3) ls (v.toList ++ rest))) : W p l e R s m args below meth c H locs cells slots Q (F0 m pc ls st0) := by
  have hr := va_runI (g := F0 m pc ls st0) (H := H) (locs := locs) (cells := cells) (slots := slots) (e := e) (below := below) (meth := meth) hC.1 hMet cw ⟨mw_blind hC.2.2.2, mw_pre hC hM⟩ rfl hn hsize hst (lv_room hroom) hdg hf
  intro T hT X
  obtain ⟨v, st₀, t, T', L, h0, X', hL, e1, e2, ⟨v', g', hv, hp, hpic, hin, hF⟩, st⟩ := hr T hT X
  have hv' := Outcome.returned.inj hv
  subst hv'
  obtain ⟨k1, k2, k3⟩ := vx_keep h0 e1 hM.2.2.1 (fun q _ h => hM.sub q h) (fun q h => hM.sub q h) hL hF
  obtain ⟨t2, a1, b1⟩ := kk v g' T'.heap (locs ++ L) hp ⟨by rw [e1]; exact hpic, fun a e h => hM.sub _ (hin a e h), k3, hM.2.2.2⟩ T' rfl X'
  exact ⟨t2, st t2 a1, b1⟩
/-- a private constructor of a nest mate -/
theorem mw_callIN (hC : mx D cl tys sx nw A p m c cc nL s args Ts own) (hM : mw D cl A s.heap g H locs) {y : MethodName} {ws : List Cond} {rm : Room} {As : List Value} {post : Option Value → mw_G → Prop} {b index n maxL : Nat} {bytes : ByteArray} {st0 : List Value} {host : String}
    (hMet : mw_MetI l y ws rm D cl tys sx nw g H.size (.ref b :: As) post) (cw : va_CN R s args own index y host bytes maxL none ws rm rm.cells rm.slots n ∧ y.name = "<init>" ∧ (Cond.instanceMethod y).before args s = true) (hn : As.length = n) (hst : st0 = As.reverse ++ .ref b :: rest) (hsize : ls.size = nL) (hroom : (rest.map fun v => v.category).sum ≤ 8) (hdg : decode cc pc = .ok (.invokespecial index, 3)) (hf : cells + rm.cells ≤ R.cells ∧ slots + rm.slots ≤ R.slots)
    (kk : ∀ (v : Option Value) (g' : mw_G) (H1 : Heap) (locs1 : List Loc), post v g' → mw D cl A s.heap g' H1 locs1 → W p l e R s m args below meth c H1 locs1 (cells + rm.cells) (slots + rm.slots) Q (F0 m (pc + 3) ls (v.toList ++ rest))) : W p l e R s m args below meth c H locs cells slots Q (F0 m pc ls st0) := by
  have hr := va_runIN (g := F0 m pc ls st0) (H := H) (locs := locs) (cells := cells) (slots := slots) (e := e) (below := below) (meth := meth) hC.1 hMet cw ⟨mw_blind hC.2.2.2, mw_pre hC hM⟩ rfl hn hsize hst (lv_room hroom) hdg hf
  intro T hT X
  obtain ⟨v, st₀, t, T', L, h0, X', hL, e1, e2, ⟨v', g', hv, hp, hpic, hin, hF⟩, st⟩ := hr T hT X
  have hv' := Outcome.returned.inj hv
  subst hv'
  obtain ⟨k1, k2, k3⟩ := vx_keep h0 e1 hM.2.2.1 (fun q _ h => hM.sub q h) (fun q h => hM.sub q h) hL hF
  obtain ⟨t2, a1, b1⟩ := kk v g' T'.heap (locs ++ L) hp ⟨by rw [e1]; exact hpic, fun a e h => hM.sub _ (hin a e h), k3, hM.2.2.2⟩ T' rfl X'
  exact ⟨t2, st t2 a1, b1⟩
variable {g0 : mw_G} {post : Option Value → mw_G → Prop} {px : String → mw_G → Prop} {XC : String → State → State → Prop} {mc ms : Nat}
theorem mw_fin (hM : mw D cl (mw_A g0 s.heap.size) s.heap g H locs) {v : Option Value} (hp : post v g) : ∀ t : State, t.heap = H → s.WarmedH t.vm → mw_Qc D cl g0 s.heap.size post args s (.returned v) t :=
  fun t ht _ => ⟨v, g, rfl, hp, by rw [ht]; exact hM.1, hM.2.1, hM.2.2.1.F ht⟩
theorem mw_iret (hC : mx D cl tys sx nw A p m c cc nL s args Ts own) (hM : mw D cl (mw_A g0 s.heap.size) s.heap g H locs) (hr : meth.sig.returnType = some .int) (hlocks : meth.locks = false) {v : Int32} (hdg : decode cc pc = .ok (.ireturn, 1)) (h1 : cells ≤ mc) (h2 : slots ≤ ms) (hp : post (some (.int v)) g) :
    W p l e R s m args below meth c H locs cells slots (vx_MQ below (mw_Qc D cl g0 s.heap.size post) XC args s mc ms (mw_A g0 s.heap.size)) (F0 m pc ls [.int v]) :=
  vx_ret (W.widen h1 h2 (W.iret hC.1.1 hC.1.2.1 hr (mw_fin hM hp) hM.2.2.1.2.2 hdg hlocks))
theorem mw_zret (hC : mx D cl tys sx nw A p m c cc nL s args Ts own) (hM : mw D cl (mw_A g0 s.heap.size) s.heap g H locs) {ty : FieldType} (hr : meth.sig.returnType = some ty) (hlocks : meth.locks = false) {v : Int32} (hn : narrow ty (.int v) = .int v) (hdg : decode cc pc = .ok (.ireturn, 1)) (h1 : cells ≤ mc) (h2 : slots ≤ ms) (hp : post (some (.int v)) g) :
    W p l e R s m args below meth c H locs cells slots (vx_MQ below (mw_Qc D cl g0 s.heap.size post) XC args s mc ms (mw_A g0 s.heap.size)) (F0 m pc ls [.int v]) :=
  vx_ret (W.widen h1 h2 (W.zret hC.1.1 hC.1.2.1 hr hn (mw_fin hM hp) hM.2.2.1.2.2 hdg hlocks))
theorem mw_vret (hC : mx D cl tys sx nw A p m c cc nL s args Ts own) (hM : mw D cl (mw_A g0 s.heap.size) s.heap g H locs) (hr : meth.sig.returnType = none) (hlocks : meth.locks = false) (hdg : decode cc pc = .ok (.return_, 1)) (h1 : cells ≤ mc) (h2 : slots ≤ ms) (hp : post none g) :
    W p l e R s m args below meth c H locs cells slots (vx_MQ below (mw_Qc D cl g0 s.heap.size post) XC args s mc ms (mw_A g0 s.heap.size)) (F0 m pc ls []) :=
  vx_ret (W.widen h1 h2 (W.vret hC.1.1 hC.1.2.1 hr (mw_fin hM hp) hM.2.2.1.2.2 hdg hlocks))
theorem mw_vretI (hC : mx D cl tys sx nw A p m c cc nL s args Ts own) (hM : mw D cl (mw_A g0 s.heap.size) s.heap g H locs) (hr : meth.sig.returnType = none) (hlocks : meth.locks = false) (hdg : decode cc pc = .ok (.return_, 1)) (h1 : cells ≤ mc) (h2 : slots ≤ ms) (hp : post none g) :
    W p l e R s m args below meth c H locs cells slots (MQ below (mw_Qc D cl g0 s.heap.size post) args s mc ms (mw_A g0 s.heap.size)) (F0 m pc ls []) :=
  W.widen h1 h2 (W.vret hC.1.1 hC.1.2.1 hr (mw_fin hM hp) hM.2.2.1.2.2 hdg hlocks)
theorem mw_aret (hC : mx D cl tys sx nw A p m c cc nL s args Ts own) (hM : mw D cl (mw_A g0 s.heap.size) s.heap g H locs) {C : String} (hr : meth.sig.returnType = some (.object C)) (hlocks : meth.locks = false) {r : Option Nat} (hdg : decode cc pc = .ok (.areturn, 1)) (h1 : cells ≤ mc) (h2 : slots ≤ ms) (hp : post (some (va_rf r)) g) :
    W p l e R s m args below meth c H locs cells slots (vx_MQ below (mw_Qc D cl g0 s.heap.size post) XC args s mc ms (mw_A g0 s.heap.size)) (F0 m pc ls [va_rf r]) :=
  vx_ret (W.widen h1 h2 (W.aret hC.1.1 hC.1.2.1 hr (Or.inl ⟨C, rfl⟩) (va_rf_or r) (mw_fin hM hp) hM.2.2.1.2.2 hdg hlocks))
/-- an exception of a callee goes on to the caller -/
theorem mw_out (hM : mw D cl (mw_A g0 s.heap.size) s.heap g H locs) (htab : ∀ x ∈ c.exceptionTable.toList, False) (hlocks : meth.locks = false) {E : String} {ce : Cell} {q9 : Addr} {Qc : Array Value → State → Outcome → State → Prop} (hce : H[q9]? = some ce) (hcv : ce.vm = .none) (hcl : s.vm.findClass E = some ce.cls) (h1 : cells ≤ mc) (h2 : slots ≤ ms) (hp : px E g) :
    vx_W p l e R s m args below meth c H locs cells slots (vx_MQ below Qc (mw_Xc D cl g0 s.heap.size px) args s mc ms (mw_A g0 s.heap.size)) (F0 m pc ls rest) q9 :=
  vx_out (fun x hx => (htab x hx).elim) hlocks hce hcv hcl (fun t ht _ => ⟨g, hp, by rw [ht]; exact hM.1, hM.2.1, hM.2.2.1.F ht⟩) hM.2.2.1.2.2 h1 h2
/-- throw new E("text") -/
theorem mw_throw (hC : mx D cl tys sx nw (mw_A g0 s.heap.size) p m c cc nL s args Ts own) (hM : mw D cl (mw_A g0 s.heap.size) s.heap g H locs) (htab : ∀ x ∈ c.exceptionTable.toList, False) (hlocks : meth.locks = false) (hl : l.stackTraces = false) {cls text : String} {names : List String} {ik is ic : Nat} {Qc : Array Value → State → Outcome → State → Prop}
    (htx : (own, is, text) ∈ sx) (hcls : Bundle.fit cls = true) (hnames : ∀ n ∈ names, Bundle.fit n = true) (hk : Cond.classLink own ik cls ∈ Ts) (hini : Cond.initialized cls ∈ Ts) (hgd : ∀ w ∈ (vx_atS own ic cls names).filter goodWord, w ∈ Ts) (hbad : ∀ w ∈ (vx_atS own ic cls names).filter (fun w => !goodWord w), w ∈ nw)
    (hgood : ∀ w ∈ Cond.classLink own ik cls :: Cond.initialized cls :: vx_atS own ic cls names, vx_ot w = true) (hsize : ls.size = nL)
    (d0 : decode cc pc = .ok (.new ik, 3)) (d3 : decode cc (pc + 3) = .ok (.dup, 1)) (d4 : decode cc (pc + 4) = .ok (.ldc is, 2)) (d6 : decode cc (pc + 6) = .ok (.invokespecial ic, 3)) (d9 : decode cc (pc + 9) = .ok (.athrow, 1))
    (hRf : names.length + 3 < R.frames) (hRl : (rest.map fun v => v.category).sum + (13 * (names.length + 1) + 43) ≤ R.locals) (hRc : cells + 1 ≤ R.cells) (hRs : slots + 6 ≤ R.slots) (h1 : cells + 1 ≤ mc) (h2 : slots + 6 ≤ ms) (hp : px cls g) :
    W p l e R s m args below meth c H locs cells slots (vx_MQ below Qc (mw_Xc D cl g0 s.heap.size px) args s mc ms (mw_A g0 s.heap.size)) (F0 m pc ls rest) := by
  obtain ⟨sa, hsa⟩ := hC.2.2.1.2.2.1 _ htx
  refine vx_throwS hC.1.1 hC.1.2.1 hl hC.1.2.2.2.1 hcls hnames (hC.1.2.2.2.2 _ hk) (hC.1.2.2.2.2 _ hini) hsa
    (vx_hat (B := nw) (fun w hw => hC.1.2.2.2.2 w (hgd w hw)) hbad (fun w hw => mw_nb (hC.2.2.2 w hw) (hC.2.2.1.2.2.2 w hw))) hgood hC.2.2.1.1 hC.2.2.1.2.1 hM.2.2.1
    (hsize.trans hC.1.2.2.1.symm) d0 d3 d4 d6 d9 (fun x hx => (htab x hx).elim) hRf hRl hRc hRs hlocks (fun t ht h3 h4 => ?_) hM.2.2.1.2.2 h1 h2
  exact ⟨g, hp, fun b x hb => (hM.1 b x hb).kept (h4 b (hM.1 b x hb).lt), hM.2.1, ⟨Nat.le_trans hM.2.2.1.1 h3, fun q g1 g2 => (h4 q (Nat.lt_of_lt_of_le g1 hM.2.2.1.1)).trans (hM.2.2.1.2.1 q g1 g2)⟩⟩
end MWR
/-- a method's contract out of the walk of its body -/
theorem mw_ofW {l : Launch} {y : MethodName} {ws ws' : List Cond} {rm : Room} {D : va_G} {cl : List vw_C} {tys : List (ClassId × FieldType)} {sx : List (String × Nat × String)} {nw : List Cond} {g : mw_G} {sz : Nat} {av : List Value} {post : Option Value → mw_G → Prop} {px : String → mw_G → Prop} {cc : ByteArray} {maxL : Nat} {ret : Option FieldType}
    {Ts : List Cond} (hy : plainName y.cls = true) (hw : ws = Cond.code y cc maxL ret :: ws') (hTs : ∀ w ∈ Ts, w ∈ ws) (hcd : ∀ w ∈ nw, mw_cd w = true) (hlen : (lg_sl av).length ≤ maxL)
    (body : ∀ (p : Program) (e : Env) (s : State) (m : MethodId) (below : List Frame) (meth : Method) (c : Code), s.heap.size = sz → mx D cl tys sx nw (mw_A g s.heap.size) p m c cc maxL s av.toArray Ts y.cls → meth.sig.returnType = ret → meth.locks = false → meth.name = y.name → (∀ x ∈ c.exceptionTable.toList, False) → mw D cl (mw_A g s.heap.size) s.heap g s.heap [] → ∀ ls : Array Slot, lv_has ls maxL (lv_args 0 av) →
      W p l e rm s m av.toArray below meth c s.heap [] 0 0 (vx_MQ below (mw_Qc D cl g s.heap.size post) (mw_Xc D cl g s.heap.size px) av.toArray s rm.cells rm.slots (mw_A g s.heap.size)) (F0 m 0 ls [])) : mw_Met l y ws rm D cl tys sx nw g sz av post px := by
  refine vx_ofW (cc := cc) (maxL := maxL) (ret := ret) hy hw ?_
  intro p e s m args below meth c s₁ B hml htab hv
  obtain ⟨rfl, hsz, hpic, hK, hst⟩ := hv
  subst hsz
  have hl := lv_entry av (n := maxL) hlen
  rw [lg_entry_eq]
  generalize (lg_sl av ++ List.replicate (maxL - (lg_sl av).length) Slot.unset).toArray = ls at hl ⊢
  exact body p e s m below meth c rfl ⟨⟨B.exec, B.bytes, hml, findClass_of_methodNamed B.named, fun w h => atoms_spec (ws := ws) B.pre w (hTs w h)⟩, hK, hst, hcd⟩ B.returns B.notSynchronized (name_of_methodNamed B.named B.method).1 htab (mw_A.start D cl hpic) ls hl
theorem mw_ofWI {l : Launch} {y : MethodName} {ws ws' : List Cond} {rm : Room} {D : va_G} {cl : List vw_C} {tys : List (ClassId × FieldType)} {sx : List (String × Nat × String)} {nw : List Cond} {g : mw_G} {sz : Nat} {av : List Value} {post : Option Value → mw_G → Prop} {cc : ByteArray} {maxL : Nat} {ret : Option FieldType}
    {Ts : List Cond} (hy : plainName y.cls = true) (hw : ws = Cond.code y cc maxL ret :: ws') (hTs : ∀ w ∈ Ts, w ∈ ws) (hcd : ∀ w ∈ nw, mw_cd w = true) (hlen : (lg_sl av).length ≤ maxL)
    (body : ∀ (p : Program) (e : Env) (s : State) (m : MethodId) (below : List Frame) (meth : Method) (c : Code), s.heap.size = sz → mx D cl tys sx nw (mw_A g s.heap.size) p m c cc maxL s av.toArray Ts y.cls → meth.sig.returnType = ret → meth.locks = false → meth.name = y.name → mw D cl (mw_A g s.heap.size) s.heap g s.heap [] → ∀ ls : Array Slot, lv_has ls maxL (lv_args 0 av) →
      W p l e rm s m av.toArray below meth c s.heap [] 0 0 (MQ below (mw_Qc D cl g s.heap.size post) av.toArray s rm.cells rm.slots (mw_A g s.heap.size)) (F0 m 0 ls [])) : mw_MetI l y ws rm D cl tys sx nw g sz av post := by
  refine Met.ofW (cc := cc) (maxL := maxL) (ret := ret) hy hw ?_
  intro p e s m args below meth c s₁ B hml hv
  obtain ⟨rfl, hsz, hpic, hK, hst⟩ := hv
  subst hsz
  have hl := lv_entry av (n := maxL) hlen
  rw [lg_entry_eq]
  generalize (lg_sl av ++ List.replicate (maxL - (lg_sl av).length) Slot.unset).toArray = ls at hl ⊢
  exact body p e s m below meth c rfl ⟨⟨B.exec, B.bytes, hml, findClass_of_methodNamed B.named, fun w h => atoms_spec (ws := ws) B.pre w (hTs w h)⟩, hK, hst, hcd⟩ B.returns B.notSynchronized (name_of_methodNamed B.named B.method).1 (mw_A.start D cl hpic) ls hl
end
section
/-! an exception whose constructor passes its text on by another entry than 7 (NoSuchElementException: 13): the kit's row vx_throwS has 7 alone -/
def nx_b : ByteArray := ⟨#[0x2a, 0x2b, 0xb7, 0x00, 0x0d, 0xb1]⟩
theorem nx_b0 : decode nx_b 0 = .ok (.aload_n 0, 1) := by decide +kernel
theorem nx_b1 : decode nx_b 1 = .ok (.aload_n 1, 1) := by decide +kernel
theorem nx_b2 : decode nx_b 2 = .ok (.invokespecial 13, 3) := by decide +kernel
theorem nx_b5 : decode nx_b 5 = .ok (.return_, 1) := by decide +kernel
/-- what the throw itself asks of the class X, beside Throwable's words and the chain's -/
def nx_own (own : String) (ic : Nat) (X : String) : List Cond :=
  [.methodLink own ic (Bundle.initS X), .instantiable X 6, .selects X Bundle.tFill0 Bundle.tFill0, .selects X Bundle.tFill Bundle.tFill, .lays X Bundle.tN "cause" "Ljava/lang/Throwable;", .lays X Bundle.tN "stackTrace" Bundle.steD, .lays X Bundle.tN "suppressedExceptions" Bundle.listD, .lays X Bundle.tN "detailMessage" "Ljava/lang/String;",
   .fieldLink Bundle.tN 198 Bundle.tN "backtrace" "Ljava/lang/Object;", .lays Bundle.tN Bundle.tN "backtrace" "Ljava/lang/Object;", .lays X Bundle.tN "backtrace" "Ljava/lang/Object;", .instanceMethod (Bundle.initS X), .code (Bundle.initS X) nx_b 2 none]
def nx_all (own : String) (ic : Nat) (X Y : String) (names : List String) : List Cond := Bundle.throwableAtoms ++ (Bundle.throwableSAtoms ++ (Bundle.passSAtoms X Y 13 nx_b ++ (Bundle.chainSAtoms Y names ++ nx_own own ic X)))
section NXC
variable {p : Program} {l : Launch} {e : Env} {R : Room} {s : State} {m₀ : MethodId} {args : Array Value} {below : List Frame} {meth : Method} {c : Code} {W : State} {locs : List Loc} {cells slots : Nat}
set_option maxHeartbeats 4000000 in
theorem nx_ctor (X : Stand p l e R s m₀ args below meth c W locs cells slots) (hexec : p.tables.exec = Jvm.exec) (htr : e.platform.stackTraces = false) {own cls Y : String} {names : List String} {ic : Nat}
    (hown : s.vm.findClass own = some m₀.cls) (hcls : Bundle.fit cls = true) (hY : Bundle.fit Y = true) (hnames : ∀ n ∈ names, Bundle.fit n = true) (h : ∀ w ∈ nx_all own ic cls Y names, w.before args s = true)
    (hU0 : (Cond.isRef (.static Bundle.tN "UNASSIGNED_STACK" Bundle.steD)).before args s = true) (hN0 : (Cond.isRef (.static Bundle.tN "SUPPRESSED_SENTINEL" Bundle.listD)).before args s = true)
    (hlocs : ∀ x ∈ locs, ∀ cell, s.heap[x.base]? = some cell → cell.vm.isStatics = false)
    {a : Addr} {cX : ClassId} {kX : Class} (hfoundX : s.vm.findClass cls = some cX) (hkX : s.vm.classes[cX]? = some kX) (hcell : W.heap[a]? = some (freshCell cX kX)) (hnew : s.heap.size ≤ a) {msg : Value} (hmsg : msg.isRef = true)
    {g : JFrame} (hg : g.method = m₀) (hsize : g.locals.size = c.maxLocals) (hlocked : g.locked = none) (hentered : g.entered = []) {rest : List Value} (hstack : g.stack = msg :: .ref a :: .ref a :: rest)
    (hd6 : decode c.code g.pc = .ok (.invokespecial ic, 3)) (hd9 : decode c.code (g.pc + 3) = .ok (.athrow, 1)) (hout : ∀ x ∈ c.exceptionTable.toList, covers x (g.pc + 3) = false)
    (hRframes : names.length + 4 < R.frames) (hRlocals : 2 * g.monitorRoom + ((Value.ref a :: rest).map fun v => v.category).sum + (13 * (names.length + 2) + 42) ≤ R.locals) (hlocks : meth.locks = false) :
    ∃ U : State, Steps p.tables e below (W.setTop g) U ∧ U.status = .running ∧ Ended U below (.threw a) ∧ s.WarmedH U.vm ∧ s.sameButNew ({ U with vm := s.vm } : State) locs cells slots ∧
      ∃ ce, U.heap[a]? = some ce ∧ ce.vm = .none ∧ s.vm.findClass cls = some ce.cls := by
  have howns : e.platform.frameOwnsMonitors = true := by rw [X.admits.platform]
  have hfin : e.platform.finalization = false := by rw [X.admits.platform]
  have hpl : e.platform.magicAccessors = ({} : Platform).magicAccessors := by rw [X.admits.platform]
  have w1 : ∀ w ∈ Bundle.throwableAtoms, w.before args s = true := fun w hw => h w (List.mem_append_left _ hw)
  have w2 : ∀ w ∈ Bundle.throwableSAtoms, w.before args s = true := fun w hw => h w (List.mem_append_right _ (List.mem_append_left _ hw))
  have w3 : ∀ w ∈ Bundle.passSAtoms cls Y 13 nx_b, w.before args s = true := fun w hw => h w (List.mem_append_right _ (List.mem_append_right _ (List.mem_append_left _ hw)))
  have w4 : ∀ w ∈ Bundle.chainSAtoms Y names, w.before args s = true := fun w hw => h w (List.mem_append_right _ (List.mem_append_right _ (List.mem_append_right _ (List.mem_append_left _ hw))))
  have w5 : ∀ w ∈ nx_own own ic cls, w.before args s = true := fun w hw => h w (List.mem_append_right _ (List.mem_append_right _ (List.mem_append_right _ (List.mem_append_right _ hw))))
  obtain ⟨T, Z0, L, -, Yt⟩ := ThrowableC.of_atoms (args := args) howns hfin hpl w1
  obtain ⟨Z, M, LZ, LM, hnZ⟩ := Init0T.ofS_atoms (args := args) hpl L Yt w2
  obtain ⟨P1, L1, hP1m, hP1s⟩ := PassC.ofS_atoms (args := args) (s := s) hpl (X := cls) (Y := Y) (Bundle.fit_spec hcls).1 (Bundle.fit_spec hY).2 nx_b0 nx_b1 nx_b2 nx_b5 w3
  obtain ⟨P2, Ps, hlen, L2, hL, hP2m, hlink2, hlink⟩ := Bundle.chainS (args := args) hpl hnZ names Y hY hnames w4
  have hlink1 : P1.sup = P2.m := Option.some.inj (hP1s.symm.trans hP2m)
  have hfound : s.vm.findClass cls = some P1.m.cls := findClass_of_methodNamed hP1m
  cases Option.some.inj (hfoundX.symm.trans hfound)
  obtain ⟨c1, kX', hc1, hk, hord, -, -, hn6⟩ := Cond.instantiable_spec (w5 (.instantiable cls 6) (by simp [nx_own]))
  cases Option.some.inj (hc1.symm.trans hfound)
  cases Option.some.inj (hkX.symm.trans hk)
  have hsel0 : selectMethod e.platform s.vm P1.m.cls T.fill0 = .method T.fill0 := by
    obtain ⟨c2, r2, m2, q1, q2, q3, q4, -⟩ := Cond.selects_spec (w5 (.selects cls Bundle.tFill0 Bundle.tFill0) (by simp [nx_own]))
    cases Option.some.inj (q1.symm.trans hfound)
    cases Option.some.inj (q2.symm.trans (State.methodFound?_of_named Yt.fill0 (by decide)))
    cases Option.some.inj (q3.symm.trans Yt.fill0)
    rw [Launch.admits_selectMethod X.admits]; exact q4
  have hselF : selectMethod e.platform s.vm P1.m.cls T.fill = .method T.fill := by
    obtain ⟨c2, r2, m2, q1, q2, q3, q4, -⟩ := Cond.selects_spec (w5 (.selects cls Bundle.tFill Bundle.tFill) (by simp [nx_own]))
    cases Option.some.inj (q1.symm.trans hfound)
    cases Option.some.inj (q2.symm.trans (State.methodFound?_of_named Yt.fill (by decide)))
    cases Option.some.inj (q3.symm.trans Yt.fill)
    rw [Launch.admits_selectMethod X.admits]; exact q4
  obtain ⟨cellS0, hcS0, hiss⟩ := Yt.statics
  obtain ⟨u0, hu0⟩ := Cond.staticRefV Yt.unassigned L.unassignedStatic L.statics hcS0 hiss hU0
  obtain ⟨sen, hsen⟩ := Cond.staticRefV Yt.sentinel L.sentinelStatic L.statics hcS0 hiss hN0
  obtain ⟨ci198, i198, fB, hk198, hg198, ha198, hsB, -, hnB, htB, hffB⟩ := Cond.ownField (t := .object "java/lang/Object") Yt.found L.cls (by decide +kernel) (w5 (.fieldLink Bundle.tN 198 Bundle.tN "backtrace" "Ljava/lang/Object;") (by simp [nx_own])) (w5 (.lays Bundle.tN Bundle.tN "backtrace" "Ljava/lang/Object;") (by simp [nx_own])) e.platform hpl
  obtain ⟨cellS, hcS', heS, -, hkeep⟩ := X.same.2.2.2.2.2 T.aS cellS0 hcS0
  have hcellS : W.heap[T.aS]? = some cellS := hcS'
  have hout' : ∀ i, (⟨T.aS, i⟩ : Loc) ∉ locs := fun i hmem => by
    have := hlocs _ hmem cellS0 hcS0
    rw [hiss] at this; cases this
  have hknownS : cellS.vm ≠ .unknown := by
    rw [heS]; intro hu
    rw [show cellS0.vm = .unknown from hu] at hiss
    cases hiss
  have hneS : T.aS ≠ a := Nat.ne_of_lt (Nat.lt_of_lt_of_le (Array.getElem?_eq_some_iff.mp hcS0).1 hnew)
  obtain ⟨iM, hffM⟩ := Yt.msg
  obtain ⟨tyC, dC, hdC, hdnC⟩ := Cond.laysAt hfound hk Yt.cause (w5 (.lays cls Bundle.tN "cause" "Ljava/lang/Throwable;") (by simp [nx_own]))
  obtain ⟨tyS, dS, hdS, hdnS⟩ := Cond.laysAt hfound hk Yt.stack (w5 (.lays cls Bundle.tN "stackTrace" Bundle.steD) (by simp [nx_own]))
  obtain ⟨tyP, dP, hdP, hdnP⟩ := Cond.laysAt hfound hk Yt.supp (w5 (.lays cls Bundle.tN "suppressedExceptions" Bundle.listD) (by simp [nx_own]))
  obtain ⟨tyM, dM, hdM, hdnM⟩ := Cond.laysAt hfound hk hffM (w5 (.lays cls Bundle.tN "detailMessage" "Ljava/lang/String;") (by simp [nx_own]))
  obtain ⟨tyB, dB, hdB, hdnB⟩ := Cond.laysAt hfound hk hffB (w5 (.lays cls Bundle.tN "backtrace" "Ljava/lang/Object;") (by simp [nx_own]))
  have bC := Cond.laysApart hdB hdC hdnB hdnC (by rw [hnB, Yt.causeName]; decide)
  have bS := Cond.laysApart hdB hdS hdnB hdnS (by rw [hnB, Yt.stackName]; decide)
  have bP := Cond.laysApart hdB hdP hdnB hdnP (by rw [hnB, Yt.suppName]; decide)
  have hskip : SkipFacts T e.platform s (fun u => u) u0 ((preparedCellV T.toThrowableT (freshCell P1.m.cls kX) a u0 sen).withEntry W.cur) :=
    ⟨{ ci198 := ci198, i198 := i198, fBack := fB }, ⟨hk198, hg198, ha198, hsB⟩, by
      have := fresh_default (c := P1.m.cls) tyB
      rw [htB] at this
      simpa [preparedCellV, Cell.setSlot, Cell.withEntry, Array.getElem?_setIfInBounds, bC, bS, bP, bC.symm, bS.symm, bP.symm, defaultValue] using this, fun _ _ => rfl⟩
  obtain ⟨tm, methC, cdC, kC, vm₁, hnC, -, -, -, -, -, -, -, hW₁, st1⟩ := Steps.initColdS (tb := p.tables) (e := e) (below := below) (s := s) (U := W) X.here hexec X.warmed hpl hown (t := Bundle.initS cls) rfl rfl (Bundle.fit_spec hcls).2
    (w5 (.methodLink own ic (Bundle.initS cls)) (by simp [nx_own])) (w5 (.instanceMethod (Bundle.initS cls)) (by simp [nx_own])) (bytes := nx_b) (maxL := 2) (w5 (.code (Bundle.initS cls) nx_b 2 none) (by simp [nx_own]))
    (f := g) hg (a := a) (msg := msg) (rest := .ref a :: rest) hstack hd6
  cases Option.some.inj (hnC.symm.trans hP1m)
  have X₁ := X.noted hW₁
  obtain ⟨vm₂, X₂, st2⟩ := X₁.ctorMessageOffV hexec (g := { g with stack := .ref a :: rest }) hg hsize T L Z LZ M LM (P1 :: P2 :: Ps)
    (fun P hP => by
      rcases List.mem_cons.mp hP with rfl | hP
      · exact L1
      · rcases List.mem_cons.mp hP with rfl | hP
        · exact L2
        · exact hL P hP) ⟨hlink1, hlink2, hlink⟩ (u0 := u0) (sen := sen) (self := a) hmsg (cell := freshCell P1.m.cls kX) (cellS := cellS)
    hcell (fun _ => by simp) (by simp) rfl rfl hsel0 hselF hcellS hneS hknownS (by rw [hkeep _ (hout' _)]; exact hu0) (by rw [hkeep _ (hout' _)]; exact hsen)
    (Takes.of_laid hk hord tyC (by rw [Yt.causeType]; rfl)) (Takes.of_laid hk hord tyS (by rw [Yt.stackType]; exact fits_refV_array _ u0)) (Takes.of_laid hk hord tyP (by rw [Yt.suppType]; exact fits_refV_object _ sen))
    (Takes.of_laid hk hord tyM (by rw [Yt.msgType]; exact fits_refV_object _ ⟨msg, hmsg⟩)) Yt.objLocals hskip htr [] hd6
    (by simp only [List.length_cons, hlen]; omega) (by simp only [List.length_cons, hlen]; exact hRlocals)
  obtain ⟨hwalk, hrun, hended, hWU, hsame⟩ := X₂.athrowLeaves hexec (g := { g with stack := .ref a :: rest, pc := g.pc + 3 }) hg hlocked hentered hout (a := a) (rest := rest) rfl hd9 hlocks
  have hlt : a < ((W.setVm vm₁).setVm vm₂).heap.size := (Array.getElem?_eq_some_iff.mp hcell).1
  have hU := heapAt_setCell_self (s := (W.setVm vm₁).setVm vm₂) (plainBareV T.toThrowableT (freshCell P1.m.cls kX) a u0 sen msg) hlt
  refine ⟨_, st1 _ (fun acts => ?_), hrun, hended, hWU, hsame.weaken (fun y hy hlt' => ?_) (Nat.le_refl _) (Nat.le_refl _), _, hU, rfl, hfound⟩
  · rw [doInvoke_state]
    exact st2 _ hwalk
  · rcases List.mem_append.mp hy with h1 | h1
    · exact h1
    · exfalso
      have hb : y.base = a := by
        simp only [List.mem_cons, List.not_mem_nil, or_false] at h1
        rcases h1 with rfl | rfl | rfl | rfl | rfl <;> rfl
      rw [hb] at hlt'
      exact Nat.not_lt.mpr hnew hlt'
end NXC
def nx_at (own : String) (ic : Nat) (X Y : String) (names : List String) : List Cond := (nx_all own ic X Y names).filter vx_no
section NXT
variable {p : Program} {l : Launch} {e : Env} {R : Room} {s : State} {m : MethodId} {args : Array Value} {below : List Frame} {meth : Method} {c : Code} {H : Heap} {locs : List Loc} {cells slots : Nat}
variable {free : Addr → Prop} {ls : Array Slot} {rest : List Value} {Qc : Array Value → State → Outcome → State → Prop} {XC : String → State → State → Prop}
set_option maxHeartbeats 4000000 in
theorem nx_throwS {cc : ByteArray} {pc : Nat} (hexec : p.tables.exec = Jvm.exec) (hb : c.code = cc) (hl : l.stackTraces = false) {own cls Y text : String} {names : List String} {ik is ic mc ms sa : Nat} {A : Nat → Prop}
    (hown : s.vm.findClass own = some m.cls) (hcls : Bundle.fit cls = true) (hY : Bundle.fit Y = true) (hnames : ∀ n ∈ names, Bundle.fit n = true)
    (hk : (Cond.classLink own ik cls).before args s = true) (hini : (Cond.initialized cls).before args s = true) (hstr : vk_R own is text sa s) (hat : ∀ w ∈ nx_at own ic cls Y names, w.before args s = true)
    (hgood : ∀ w ∈ Cond.classLink own ik cls :: Cond.initialized cls :: nx_at own ic cls Y names, vx_ot w = true)
    (hU : vx_Zq Bundle.tN "UNASSIGNED_STACK" Bundle.steD A s s.heap) (hN : vx_Zq Bundle.tN "SUPPRESSED_SENTINEL" Bundle.listD A s s.heap) (hS : va_S A s.heap H locs) (hsize : ls.size = c.maxLocals)
    (d0 : decode cc pc = .ok (.new ik, 3)) (d3 : decode cc (pc + 3) = .ok (.dup, 1)) (d4 : decode cc (pc + 4) = .ok (.ldc is, 2)) (d6 : decode cc (pc + 6) = .ok (.invokespecial ic, 3)) (d9 : decode cc (pc + 9) = .ok (.athrow, 1))
    (hout : ∀ x ∈ c.exceptionTable.toList, covers x (pc + 9) = false)
    (hRframes : names.length + 4 < R.frames) (hRlocals : (rest.map fun v => v.category).sum + (13 * (names.length + 2) + 43) ≤ R.locals) (hRcells : cells + 1 ≤ R.cells) (hRslots : slots + 6 ≤ R.slots) (hlocks : meth.locks = false)
    (hx : ∀ t : State, s.vm.Alike t.vm → H.size ≤ t.heap.size → (∀ q : Nat, q < H.size → t.heap[q]? = H[q]?) → XC cls s t)
    (hf : ∀ z ∈ locs, free z.base) (hc : cells + 1 ≤ mc) (hs : slots + 6 ≤ ms) :
    W p l e R s m args below meth c H locs cells slots (vx_MQ below Qc XC args s mc ms free) (F0 m pc ls rest) := by
  intro T hT X
  have htr : e.platform.stackTraces = false := (show e.platform.stackTraces = l.stackTraces by rw [X.admits.platform]).trans hl
  have Yb := vx_rebase X (R' := { frames := R.frames, locals := R.locals, cells := 1, slots := 6 }) (Nat.le_refl _) (Nat.le_refl _) hRcells hRslots
  obtain ⟨s', hA⟩ : ∃ z, z = (T.setVm s.vm).setFrames (.invoking m args :: below) := ⟨_, rfl⟩
  rw [← hA] at Yb
  have hvm : s'.vm = s.vm := by rw [hA]; rfl
  have hhp : s'.heap = H := by rw [hA]; exact hT
  have hW0 : s.WarmedH s'.vm := by rw [hvm]; exact State.WarmedH.refl s
  have hat' : ∀ w ∈ nx_at own ic cls Y names, w.before args s' = true := fun w hw => vx_ot_at hW0 hvm.symm (hgood w (List.mem_cons_of_mem _ (List.mem_cons_of_mem _ hw))) (hat w hw)
  have hk' : (Cond.classLink own ik cls).before args s' = true := vx_ot_at hW0 hvm.symm (hgood _ List.mem_cons_self) hk
  have hini' : (Cond.initialized cls).before args s' = true := vx_ot_at hW0 hvm.symm (hgood _ (List.mem_cons_of_mem _ List.mem_cons_self)) hini
  have hU' : vx_Zq Bundle.tN "UNASSIGNED_STACK" Bundle.steD A s' s'.heap := by rw [hhp]; exact vx_Zq.moved hW0.alike (hU.kept hS.2.1)
  have hN' : vx_Zq Bundle.tN "SUPPRESSED_SENTINEL" Bundle.listD A s' s'.heap := by rw [hhp]; exact vx_Zq.moved hW0.alike (hN.kept hS.2.1)
  have h : ∀ w ∈ nx_all own ic cls Y names, w.before args s' = true := vx_own hat' (vx_isRefq hU'.1) (vx_isRefq hN'.1) hU'.2.word hN'.2.word
  have hown' : s'.vm.findClass own = some m.cls := by rw [hvm]; exact hown
  have hins : (Cond.instantiable cls 6).before args s' = true := h _ (by simp [nx_all, nx_own])
  obtain ⟨vm₁, cX, kX, hfX, hkX, -, -, X₁, st1⟩ := Yb.newCold hexec (own := own) (C := cls) (index := ik) (n := 6) hown' hk' hins hini'
    (g := F0 m pc ls rest) rfl (by rw [hb]; exact d0) (Nat.le_refl _) (Nat.le_refl _)
  generalize hT1 : (T.setVm vm₁).pushCell { cls := cX, slots := kX.instanceTypes.map defaultValue, vm := .none } = T1 at X₁ st1
  have hcat : (Value.ref T.heap.size).category = 1 := rfl
  have hcellA : T1.heap[T.heap.size]? = some (freshCell cX kX) := by rw [← hT1]; exact State.heap_pushCell_size _ _
  have d3' : decode c.code (pc + 3) = .ok (.dup, 1) := by rw [hb]; exact d3
  have d4' : decode c.code (pc + 4) = .ok (.ldc is, 2) := by rw [hb]; exact d4
  have hstr' : vk_R own is text sa s' := vk_R.warm hW0 hstr
  obtain ⟨U, hsteps, hrun, hend, hW, hsame, ce, hce, hcv, hO⟩ := nx_ctor X₁ hexec htr (own := own) (cls := cls) (Y := Y) (names := names) (ic := ic) hown' hcls hY hnames h (vx_isRefq hU'.1) (vx_isRefq hN'.1) (fun x hx => nomatch hx) hfX hkX hcellA (by rw [hhp, hT]; exact Nat.le_refl _) (msg := .ref sa) rfl
    (g := { method := m, pc := pc + 6, locals := ls, stack := .ref sa :: .ref T.heap.size :: .ref T.heap.size :: rest, locked := none }) rfl hsize rfl rfl (rest := rest) rfl
    (by rw [hb]; exact d6) (by rw [hb]; exact d9) hout hRframes (by simp only [List.map_cons, List.sum_cons, hcat]; show 2 * 0 + _ + _ ≤ R.locals; omega) hlocks
  obtain ⟨f1, f2⟩ := vx_frame hsame
  rw [hhp] at f1 f2
  have hWs : s.WarmedH U.vm := State.WarmedH.trans hW0 hW
  have hcl : s.vm.findClass cls = some ce.cls := by
    rw [hvm] at hO
    exact hO
  have hall : s.sameButNew ({ U with vm := s.vm } : State) locs mc ms := by
    subst hA
    obtain ⟨e1, e2⟩ := hsame
    rw [State.setFrames_setFrames] at e1
    have h2 : (T.setVm s.vm).sameButNew ({ U with vm := s.vm } : State) [] (0 + 1) (0 + 6) := ⟨e1, e2⟩
    have h3 := X.same.trans h2
    rw [List.append_nil] at h3
    exact h3.mono hc hs
  refine ⟨U, ?_, .threw T.heap.size, hrun, hend, Or.inr ⟨T.heap.size, rfl, cls, ce, locs, hx U hWs.alike f1 (fun q hq => f2 q hq (fun z hz => nomatch hz)), hce, hcv, hcl, hWs, hall, hf⟩⟩
  refine st1 _ ?_
  show Steps p.tables e below (T1.setTop { method := m, pc := pc + 3, locals := ls, stack := .ref T.heap.size :: rest, locked := none }) _
  jvm_step X₁.here [X₁.here.top, hexec, d3', Value.category]
  exact X₁.ldcString hexec (own := own) (text := text) (index := is) (a := sa) hown' hstr'.1 hstr'.2
    (g := { method := m, pc := pc + 4, locals := ls, stack := .ref T.heap.size :: .ref T.heap.size :: rest, locked := none }) rfl d4' _ hsteps
variable {D : va_G} {cl : List vw_C} {tys : List (ClassId × FieldType)} {sx : List (String × Nat × String)} {nw Ts : List Cond} {cc : ByteArray} {pc nL : Nat} {own : String} {g g0 : mw_G} {px : String → mw_G → Prop} {mc ms : Nat}
theorem mw_throwN (hC : mx D cl tys sx nw (mw_A g0 s.heap.size) p m c cc nL s args Ts own) (hM : mw D cl (mw_A g0 s.heap.size) s.heap g H locs) (htab : ∀ x ∈ c.exceptionTable.toList, False) (hlocks : meth.locks = false) (hl : l.stackTraces = false) {cls Y text : String} {names : List String} {ik is ic : Nat}
    (htx : (own, is, text) ∈ sx) (hcls : Bundle.fit cls = true) (hY : Bundle.fit Y = true) (hnames : ∀ n ∈ names, Bundle.fit n = true) (hk : Cond.classLink own ik cls ∈ Ts) (hini : Cond.initialized cls ∈ Ts) (hgd : ∀ w ∈ (nx_at own ic cls Y names).filter goodWord, w ∈ Ts) (hbad : ∀ w ∈ (nx_at own ic cls Y names).filter (fun w => !goodWord w), w ∈ nw)
    (hgood : ∀ w ∈ Cond.classLink own ik cls :: Cond.initialized cls :: nx_at own ic cls Y names, vx_ot w = true) (hsize : ls.size = nL)
    (d0 : decode cc pc = .ok (.new ik, 3)) (d3 : decode cc (pc + 3) = .ok (.dup, 1)) (d4 : decode cc (pc + 4) = .ok (.ldc is, 2)) (d6 : decode cc (pc + 6) = .ok (.invokespecial ic, 3)) (d9 : decode cc (pc + 9) = .ok (.athrow, 1))
    (hRf : names.length + 4 < R.frames) (hRl : (rest.map fun v => v.category).sum + (13 * (names.length + 2) + 43) ≤ R.locals) (hRc : cells + 1 ≤ R.cells) (hRs : slots + 6 ≤ R.slots) (h1 : cells + 1 ≤ mc) (h2 : slots + 6 ≤ ms) (hp : px cls g) :
    W p l e R s m args below meth c H locs cells slots (vx_MQ below Qc (mw_Xc D cl g0 s.heap.size px) args s mc ms (mw_A g0 s.heap.size)) (F0 m pc ls rest) := by
  obtain ⟨sa, hsa⟩ := hC.2.2.1.2.2.1 _ htx
  refine nx_throwS hC.1.1 hC.1.2.1 hl hC.1.2.2.2.1 hcls hY hnames (hC.1.2.2.2.2 _ hk) (hC.1.2.2.2.2 _ hini) hsa
    (vx_hat (B := nw) (fun w hw => hC.1.2.2.2.2 w (hgd w hw)) hbad (fun w hw => mw_nb (hC.2.2.2 w hw) (hC.2.2.1.2.2.2 w hw))) hgood hC.2.2.1.1 hC.2.2.1.2.1 hM.2.2.1
    (hsize.trans hC.1.2.2.1.symm) d0 d3 d4 d6 d9 (fun x hx => (htab x hx).elim) hRf hRl hRc hRs hlocks (fun t ht h3 h4 => ?_) hM.2.2.1.2.2 h1 h2
  exact ⟨g, hp, fun b x hb => (hM.1 b x hb).kept (h4 b (hM.1 b x hb).lt), hM.2.1, ⟨Nat.le_trans hM.2.2.1.1 h3, fun q g1 g2 => (h4 q (Nat.lt_of_lt_of_le g1 hM.2.2.1.1)).trans (hM.2.2.1.2.1 q g1 g2)⟩⟩
end NXT
end
section
/-! more rows over a map: arrays of booleans, of longs; new arrays of numbers -/
section MWQ
variable {p : Program} {l : Launch} {e : Env} {R : Room} {s : State} {m : MethodId} {args : Array Value} {below : List Frame} {meth : Method} {c : Code} {H : Heap} {locs : List Loc} {cells slots : Nat} {Q : State → Prop}
variable {cc : ByteArray} {pc nL : Nat} {ls : Array Slot} {rest : List Value} {D : va_G} {cl : List vw_C} {tys : List (ClassId × FieldType)} {sx : List (String × Nat × String)} {nw : List Cond} {A : Nat → Prop} {g : mw_G} {a : Nat} {Ts : List Cond} {own : String}
theorem mw_zast (hC : mx D cl tys sx nw A p m c cc nL s args Ts own) (hM : mw D cl A s.heap g H locs) (t0 : Nat) {cA : ClassId} {n : Nat} {f : Nat → Int32} (ha : g a = some (mw_ai cA n f)) (ht : tys[t0]? = some (cA, .boolean)) {i x : Int32} (hz : x = 0 ∨ x = 1) (hin : vp_in i n) (hdg : decode cc pc = .ok (.bastore, 1))
    (kk : ∀ (H1 : Heap) (locs1 : List Loc), mw D cl A s.heap (mw_up g a (mw_ai cA n (upd f i.toNatClampNeg x))) H1 locs1 → W p l e R s m args below meth c H1 locs1 cells slots Q (F0 m (pc + 1) ls rest)) : W p l e R s m args below meth c H locs cells slots Q (F0 m pc ls (.int x :: .int i :: .ref a :: rest)) := by
  refine W.zast hC.1.1 hC.1.2.1 (hM.1 _ _ ha) ((hC.2.1.2 t0 _ ht).1 n (fun j => .int (f j))) (fun q => by cases q) (by show ¬ (i < 0 ∨ (arrV _ _ _).slots.size ≤ _); rw [arrV_size]; exact hin) rfl rfl hdg fun H1 e z oq => ?_
  refine kk H1 _ (hM.put ha ?_ z oq)
  have hn : narrow .boolean (.int x) = .int x := by rcases hz with rfl | rfl <;> rfl
  show H1[a]? = some (vp_cell _ _)
  rw [e]
  rw [vp_cell_i, vp_cell_i, arrV_store]
  congr 2
  funext q
  by_cases hq : q = i.toNatClampNeg
  · subst hq
    simp [updV, upd, hn]
  · simp [updV, upd, hq]
theorem mw_newa (hC : mx D cl tys sx nw A p m c cc nL s args Ts own) (hM : mw D cl A s.heap g H locs) (t0 : Nat) {atype : ArrayType} {ty : FieldType} {cA : ClassId} (hty : newarray.typeOf atype = ty) (hw : Cond.arrayClass ty ∈ Ts) (hp : ∀ C, ty ≠ .object C) (ht : tys[t0]? = some (cA, ty)) {a0 : vp_A} {n : Int32} {N' : Nat} (ha : vp_cell cA a0 = arrV cA N' (fun _ => defaultValue ty)) (hn : ¬ n < 0) (hN : n.toNatClampNeg = N') (hbytes : N' * componentBytes ty ≤ 536870912) (hcells : cells + 1 ≤ R.cells) (hslots : slots + N' ≤ R.slots) (hdg : decode cc pc = .ok (.newarray atype, 2))
    (kk : ∀ (q : Nat) (H1 : Heap), g q = none → mw D cl A s.heap (mw_up g q (.inl (cA, a0))) H1 locs → W p l e R s m args below meth c H1 locs (cells + 1) (slots + N') Q (F0 m (pc + 2) ls (.ref q :: rest))) : W p l e R s m args below meth c H locs cells slots Q (F0 m pc ls (.int n :: rest)) := by
  obtain ⟨⟨hx, hb, -, hown, hts⟩, hK, -⟩ := hC
  subst hty
  refine va_newaK hx hb (hts _ hw) rfl hdg rfl hn hN hbytes hcells hslots rfl fun H1 cA' e1 z1 o1 hAr hNm => ?_
  have hcA : cA' = cA := by
    have h2 := (hK.2 t0 _ ht).2
    unfold va_RA at h2
    split at h2
    · rename_i C hC9
      exact absurd hC9 (hp C)
    · exact Option.some.inj (hNm.symm.trans h2)
  subst hcA
  refine kk H.size H1 hM.fresh (hM.new ?_ z1 o1)
  show H1[H.size]? = some (vp_cell _ _)
  rw [ha]
  exact e1
end MWQ
/-! the typed heap: kinds by address, ints and references by address and place -/
abbrev th_S : Type := (Nat → Option (Nat × Nat)) × (Nat → Nat → Int32) × (Nat → Nat → Option Nat)
def th_ui (h : th_S) (a k : Nat) (v : Int32) : th_S := (h.1, va_up h.2.1 a (va_up (h.2.1 a) k v), h.2.2)
def th_ur (h : th_S) (a k : Nat) (v : Option Nat) : th_S := (h.1, h.2.1, va_up h.2.2 a (va_up (h.2.2 a) k v))
def th_un (h : th_S) (q : Nat) (t : Nat × Nat) : th_S := (va_up h.1 q (some t), va_up h.2.1 q (fun _ => 0), va_up h.2.2 q (fun _ => none))
def th_cell (cs : Nat → ClassId) (t : Nat × Nat) (iv : Nat → Int32) (rv : Nat → Option Nat) : va_E := match t.1 with
  | 0 => .inr (3, [va_rf (rv 0), va_rf (rv 1), va_rf (rv 2), va_rf (rv 3), .int (iv 4), .int (iv 5), .int (iv 6), .int (iv 7), .int (iv 8), .int (iv 9), .int (iv 10)])
  | 1 => .inr (2, [.int (iv 0), .int (iv 1)])
  | 2 => .inr (0, [.int (iv 0), va_rf (rv 1), .int (iv 2), .int (iv 3)])
  | 3 => .inr (1, [.int (iv 0), .int (iv 1), va_rf (rv 2), .int (iv 3), .int (iv 4), .int (iv 5), va_rf (rv 6)])
  | 4 => mw_aq (cs 0) t.2 rv
  | 5 => mw_aq (cs 1) t.2 rv
  | 6 => mw_aq (cs 2) t.2 rv
  | 7 => mw_ai (cs 3) t.2 iv
  | 8 => mw_ai (cs 4) t.2 iv
  | 9 => mw_al (cs 5) t.2 (fun i => (iv i).toInt64)
  | 10 => .inr (4, [.int (iv 0), va_rf (rv 1), va_rf (rv 2), va_rf (rv 3), va_rf (rv 4), va_rf (rv 5), va_rf (rv 6), va_rf (rv 7), va_rf (rv 8), .int (iv 9), .int (iv 10), va_rf (rv 11), va_rf (rv 12), .int (iv 13), .int (iv 14), .int (iv 15), va_rf (rv 16), va_rf (rv 17), va_rf (rv 18), va_rf (rv 19), .int (iv 20)])
  | _ => mw_ai 0 0 iv
def th_g (cs : Nat → ClassId) (h : th_S) : mw_G := fun a => match h.1 a with
  | some t => some (th_cell cs t (h.2.1 a) (h.2.2 a))
  | none => none
theorem th_at {cs : Nat → ClassId} {h : th_S} {a : Nat} {t : Nat × Nat} (hk : h.1 a = some t) : th_g cs h a = some (th_cell cs t (h.2.1 a) (h.2.2 a)) := by simp [th_g, hk]
theorem th_none {cs : Nat → ClassId} {h : th_S} {a : Nat} (hk : th_g cs h a = none) : h.1 a = none := by
  cases hq : h.1 a with
  | none => rfl
  | some t => rw [th_at hq] at hk; cases hk
theorem th_some {cs : Nat → ClassId} {h : th_S} {a : Nat} {e : va_E} (hk : th_g cs h a = some e) : ∃ t, h.1 a = some t := by
  cases hq : h.1 a with
  | none => simp [th_g, hq] at hk
  | some t => exact ⟨t, rfl⟩
theorem th_upi {cs : Nat → ClassId} {h : th_S} {a k : Nat} {v : Int32} {t : Nat × Nat} (hk : h.1 a = some t) : mw_up (th_g cs h) a (th_cell cs t (va_up (h.2.1 a) k v) (h.2.2 a)) = th_g cs (th_ui h a k v) := by
  funext b
  by_cases hb : b = a
  · subst hb
    simp [mw_up, th_g, th_ui, hk, va_up]
  · simp [mw_up, th_g, th_ui, va_up, hb]
theorem th_upr {cs : Nat → ClassId} {h : th_S} {a k : Nat} {v : Option Nat} {t : Nat × Nat} (hk : h.1 a = some t) : mw_up (th_g cs h) a (th_cell cs t (h.2.1 a) (va_up (h.2.2 a) k v)) = th_g cs (th_ur h a k v) := by
  funext b
  by_cases hb : b = a
  · subst hb
    simp [mw_up, th_g, th_ur, hk, va_up]
  · simp [mw_up, th_g, th_ur, va_up, hb]
theorem th_upn {cs : Nat → ClassId} {h : th_S} {q : Nat} {t : Nat × Nat} : mw_up (th_g cs h) q (th_cell cs t (fun _ => 0) (fun _ => none)) = th_g cs (th_un h q t) := by
  funext b
  by_cases hb : b = q
  · subst hb
    simp [mw_up, th_g, th_un, va_up]
  · simp [mw_up, th_g, th_un, va_up, hb]
theorem th_nb {v : Int32} (h : v = 0 ∨ v = 1) : narrow .boolean (.int v) = .int v := by rcases h with rfl | rfl <;> rfl
theorem th_fb {v : Int32} (h : v = 0 ∨ v = 1) : fits .boolean (.int v) = true := by rcases h with rfl | rfl <;> rfl
theorem th_no (n : String) (r : Option Nat) : narrow (.object n) (va_rf r) = va_rf r := by cases r <;> rfl
theorem th_fo (n : String) (r : Option Nat) : fits (.object n) (va_rf r) = true := by cases r <;> rfl
theorem th_na (t : FieldType) (r : Option Nat) : narrow (.array t) (va_rf r) = va_rf r := by cases r <;> rfl
theorem th_fa (t : FieldType) (r : Option Nat) : fits (.array t) (va_rf r) = true := by cases r <;> rfl
section THR
variable {p : Program} {l : Launch} {e : Env} {R : Room} {s : State} {m : MethodId} {args : Array Value} {below : List Frame} {meth : Method} {c : Code} {H : Heap} {locs : List Loc} {cells slots : Nat} {Q : State → Prop}
variable {cc : ByteArray} {pc nL : Nat} {ls : Array Slot} {rest : List Value} {D : va_G} {A : Nat → Prop} {h : th_S} {cs : Nat → ClassId} {a index : Nat} {own : String}
theorem gr_0_0 (hC : mx D vwC5 (th_tys cs) th_sx th_nw A p m c cc nL s args TB own) (hM : mw D vwC5 A s.heap (th_g cs h) H locs) (ha : h.1 a = some (0, 0)) (hlk : Cond.fieldLink own index RX3 "roots" "[LStableHeap$Lockable;" ∈ TB) (hdg : decode cc pc = .ok (.getfield index, 3)) {r : Option Nat} (hr : h.2.2 a 0 = r)
    (kk : W p l e R s m args below meth c H locs cells slots Q (F0 m (pc + 3) ls (va_rf r :: rest))) : W p l e R s m args below meth c H locs cells slots Q (F0 m pc ls (.ref a :: rest)) := by
  subst hr
  exact mw_get hC hM (ci := 3) (k := 0) (fs := [va_rf (h.2.2 a 0), va_rf (h.2.2 a 1), va_rf (h.2.2 a 2), va_rf (h.2.2 a 3), .int (h.2.1 a 4), .int (h.2.1 a 5), .int (h.2.1 a 6), .int (h.2.1 a 7), .int (h.2.1 a 8), .int (h.2.1 a 9), .int (h.2.1 a 10)]) (C := RX3) (T := TX3) (N := 11) (th_at ha) ⟨in_X3, rfl, by decide, hlk, rfl⟩ rfl hdg kk
theorem pu_0_0 (hC : mx D vwC5 (th_tys cs) th_sx th_nw A p m c cc nL s args TB own) (hM : mw D vwC5 A s.heap (th_g cs h) H locs) (ha : h.1 a = some (0, 0)) (hlk : Cond.fieldLink own index RX3 "roots" "[LStableHeap$Lockable;" ∈ TB) (hin2 : meth.name = "<init>") (hdecl : RX3 = own) {v : Option Nat} (hdg : decode cc pc = .ok (.putfield index, 3))
    (kk : ∀ (H : Heap) (locs : List Loc), mw D vwC5 A s.heap (th_g cs (th_ur h a 0 v)) H locs → W p l e R s m args below meth c H locs cells slots Q (F0 m (pc + 3) ls rest)) : W p l e R s m args below meth c H locs cells slots Q (F0 m pc ls (va_rf v :: .ref a :: rest)) := by
  refine mw_putF hC hM (ci := 3) (k := 0) (fs := [va_rf (h.2.2 a 0), va_rf (h.2.2 a 1), va_rf (h.2.2 a 2), va_rf (h.2.2 a 3), .int (h.2.1 a 4), .int (h.2.1 a 5), .int (h.2.1 a 6), .int (h.2.1 a 7), .int (h.2.1 a 8), .int (h.2.1 a 9), .int (h.2.1 a 10)]) (C := RX3) (T := TX3) (N := 11) (ty0 := tyX3) (ty := .array (.object "StableHeap$Lockable")) (th_at ha) ⟨in_X3, rfl, by decide, hlk, rfl⟩ ⟨ok_X3, nm_X3, by decide +kernel⟩ rfl hin2 hdecl (th_na _ _) (th_fa _ _) (Nat.le_of_ble_eq_true rfl) hdg (fun H1 locs1 hM1 => kk H1 locs1 ?_)
  rw [← th_upr (k := 0) (v := v) ha]
  exact hM1
theorem gr_0_1 (hC : mx D vwC5 (th_tys cs) th_sx th_nw A p m c cc nL s args TB own) (hM : mw D vwC5 A s.heap (th_g cs h) H locs) (ha : h.1 a = some (0, 0)) (hlk : Cond.fieldLink own index RX3 "objects" "[LStableHeap$Lockable;" ∈ TB) (hdg : decode cc pc = .ok (.getfield index, 3)) {r : Option Nat} (hr : h.2.2 a 1 = r)
    (kk : W p l e R s m args below meth c H locs cells slots Q (F0 m (pc + 3) ls (va_rf r :: rest))) : W p l e R s m args below meth c H locs cells slots Q (F0 m pc ls (.ref a :: rest)) := by
  subst hr
  exact mw_get hC hM (ci := 3) (k := 1) (fs := [va_rf (h.2.2 a 0), va_rf (h.2.2 a 1), va_rf (h.2.2 a 2), va_rf (h.2.2 a 3), .int (h.2.1 a 4), .int (h.2.1 a 5), .int (h.2.1 a 6), .int (h.2.1 a 7), .int (h.2.1 a 8), .int (h.2.1 a 9), .int (h.2.1 a 10)]) (C := RX3) (T := TX3) (N := 11) (th_at ha) ⟨in_X3, rfl, by decide, hlk, rfl⟩ rfl hdg kk
theorem pu_0_1 (hC : mx D vwC5 (th_tys cs) th_sx th_nw A p m c cc nL s args TB own) (hM : mw D vwC5 A s.heap (th_g cs h) H locs) (ha : h.1 a = some (0, 0)) (hlk : Cond.fieldLink own index RX3 "objects" "[LStableHeap$Lockable;" ∈ TB) (hin2 : meth.name = "<init>") (hdecl : RX3 = own) {v : Option Nat} (hdg : decode cc pc = .ok (.putfield index, 3))
    (kk : ∀ (H : Heap) (locs : List Loc), mw D vwC5 A s.heap (th_g cs (th_ur h a 1 v)) H locs → W p l e R s m args below meth c H locs cells slots Q (F0 m (pc + 3) ls rest)) : W p l e R s m args below meth c H locs cells slots Q (F0 m pc ls (va_rf v :: .ref a :: rest)) := by
  refine mw_putF hC hM (ci := 3) (k := 1) (fs := [va_rf (h.2.2 a 0), va_rf (h.2.2 a 1), va_rf (h.2.2 a 2), va_rf (h.2.2 a 3), .int (h.2.1 a 4), .int (h.2.1 a 5), .int (h.2.1 a 6), .int (h.2.1 a 7), .int (h.2.1 a 8), .int (h.2.1 a 9), .int (h.2.1 a 10)]) (C := RX3) (T := TX3) (N := 11) (ty0 := tyX3) (ty := .array (.object "StableHeap$Lockable")) (th_at ha) ⟨in_X3, rfl, by decide, hlk, rfl⟩ ⟨ok_X3, nm_X3, by decide +kernel⟩ rfl hin2 hdecl (th_na _ _) (th_fa _ _) (Nat.le_of_ble_eq_true rfl) hdg (fun H1 locs1 hM1 => kk H1 locs1 ?_)
  rw [← th_upr (k := 1) (v := v) ha]
  exact hM1
theorem gr_0_2 (hC : mx D vwC5 (th_tys cs) th_sx th_nw A p m c cc nL s args TB own) (hM : mw D vwC5 A s.heap (th_g cs h) H locs) (ha : h.1 a = some (0, 0)) (hlk : Cond.fieldLink own index RX3 "held" "[LStableHeap$Lockable;" ∈ TB) (hdg : decode cc pc = .ok (.getfield index, 3)) {r : Option Nat} (hr : h.2.2 a 2 = r)
    (kk : W p l e R s m args below meth c H locs cells slots Q (F0 m (pc + 3) ls (va_rf r :: rest))) : W p l e R s m args below meth c H locs cells slots Q (F0 m pc ls (.ref a :: rest)) := by
  subst hr
  exact mw_get hC hM (ci := 3) (k := 2) (fs := [va_rf (h.2.2 a 0), va_rf (h.2.2 a 1), va_rf (h.2.2 a 2), va_rf (h.2.2 a 3), .int (h.2.1 a 4), .int (h.2.1 a 5), .int (h.2.1 a 6), .int (h.2.1 a 7), .int (h.2.1 a 8), .int (h.2.1 a 9), .int (h.2.1 a 10)]) (C := RX3) (T := TX3) (N := 11) (th_at ha) ⟨in_X3, rfl, by decide, hlk, rfl⟩ rfl hdg kk
theorem pu_0_2 (hC : mx D vwC5 (th_tys cs) th_sx th_nw A p m c cc nL s args TB own) (hM : mw D vwC5 A s.heap (th_g cs h) H locs) (ha : h.1 a = some (0, 0)) (hlk : Cond.fieldLink own index RX3 "held" "[LStableHeap$Lockable;" ∈ TB) (hin2 : meth.name = "<init>") (hdecl : RX3 = own) {v : Option Nat} (hdg : decode cc pc = .ok (.putfield index, 3))
    (kk : ∀ (H : Heap) (locs : List Loc), mw D vwC5 A s.heap (th_g cs (th_ur h a 2 v)) H locs → W p l e R s m args below meth c H locs cells slots Q (F0 m (pc + 3) ls rest)) : W p l e R s m args below meth c H locs cells slots Q (F0 m pc ls (va_rf v :: .ref a :: rest)) := by
  refine mw_putF hC hM (ci := 3) (k := 2) (fs := [va_rf (h.2.2 a 0), va_rf (h.2.2 a 1), va_rf (h.2.2 a 2), va_rf (h.2.2 a 3), .int (h.2.1 a 4), .int (h.2.1 a 5), .int (h.2.1 a 6), .int (h.2.1 a 7), .int (h.2.1 a 8), .int (h.2.1 a 9), .int (h.2.1 a 10)]) (C := RX3) (T := TX3) (N := 11) (ty0 := tyX3) (ty := .array (.object "StableHeap$Lockable")) (th_at ha) ⟨in_X3, rfl, by decide, hlk, rfl⟩ ⟨ok_X3, nm_X3, by decide +kernel⟩ rfl hin2 hdecl (th_na _ _) (th_fa _ _) (Nat.le_of_ble_eq_true rfl) hdg (fun H1 locs1 hM1 => kk H1 locs1 ?_)
  rw [← th_upr (k := 2) (v := v) ha]
  exact hM1
theorem gr_0_3 (hC : mx D vwC5 (th_tys cs) th_sx th_nw A p m c cc nL s args TB own) (hM : mw D vwC5 A s.heap (th_g cs h) H locs) (ha : h.1 a = some (0, 0)) (hlk : Cond.fieldLink own index RX3 "transactions" "[LStableHeap$Transaction;" ∈ TB) (hdg : decode cc pc = .ok (.getfield index, 3)) {r : Option Nat} (hr : h.2.2 a 3 = r)
    (kk : W p l e R s m args below meth c H locs cells slots Q (F0 m (pc + 3) ls (va_rf r :: rest))) : W p l e R s m args below meth c H locs cells slots Q (F0 m pc ls (.ref a :: rest)) := by
  subst hr
  exact mw_get hC hM (ci := 3) (k := 3) (fs := [va_rf (h.2.2 a 0), va_rf (h.2.2 a 1), va_rf (h.2.2 a 2), va_rf (h.2.2 a 3), .int (h.2.1 a 4), .int (h.2.1 a 5), .int (h.2.1 a 6), .int (h.2.1 a 7), .int (h.2.1 a 8), .int (h.2.1 a 9), .int (h.2.1 a 10)]) (C := RX3) (T := TX3) (N := 11) (th_at ha) ⟨in_X3, rfl, by decide, hlk, rfl⟩ rfl hdg kk
theorem pu_0_3 (hC : mx D vwC5 (th_tys cs) th_sx th_nw A p m c cc nL s args TB own) (hM : mw D vwC5 A s.heap (th_g cs h) H locs) (ha : h.1 a = some (0, 0)) (hlk : Cond.fieldLink own index RX3 "transactions" "[LStableHeap$Transaction;" ∈ TB) (hin2 : meth.name = "<init>") (hdecl : RX3 = own) {v : Option Nat} (hdg : decode cc pc = .ok (.putfield index, 3))
    (kk : ∀ (H : Heap) (locs : List Loc), mw D vwC5 A s.heap (th_g cs (th_ur h a 3 v)) H locs → W p l e R s m args below meth c H locs cells slots Q (F0 m (pc + 3) ls rest)) : W p l e R s m args below meth c H locs cells slots Q (F0 m pc ls (va_rf v :: .ref a :: rest)) := by
  refine mw_putF hC hM (ci := 3) (k := 3) (fs := [va_rf (h.2.2 a 0), va_rf (h.2.2 a 1), va_rf (h.2.2 a 2), va_rf (h.2.2 a 3), .int (h.2.1 a 4), .int (h.2.1 a 5), .int (h.2.1 a 6), .int (h.2.1 a 7), .int (h.2.1 a 8), .int (h.2.1 a 9), .int (h.2.1 a 10)]) (C := RX3) (T := TX3) (N := 11) (ty0 := tyX3) (ty := .array (.object "StableHeap$Transaction")) (th_at ha) ⟨in_X3, rfl, by decide, hlk, rfl⟩ ⟨ok_X3, nm_X3, by decide +kernel⟩ rfl hin2 hdecl (th_na _ _) (th_fa _ _) (Nat.le_of_ble_eq_true rfl) hdg (fun H1 locs1 hM1 => kk H1 locs1 ?_)
  rw [← th_upr (k := 3) (v := v) ha]
  exact hM1
theorem gi_0_4 (hC : mx D vwC5 (th_tys cs) th_sx th_nw A p m c cc nL s args TB own) (hM : mw D vwC5 A s.heap (th_g cs h) H locs) (ha : h.1 a = some (0, 0)) (hlk : Cond.fieldLink own index RX3 "objectsThere" "I" ∈ TB) (hdg : decode cc pc = .ok (.getfield index, 3))
    (kk : W p l e R s m args below meth c H locs cells slots Q (F0 m (pc + 3) ls (.int (h.2.1 a 4) :: rest))) : W p l e R s m args below meth c H locs cells slots Q (F0 m pc ls (.ref a :: rest)) :=
  mw_get hC hM (ci := 3) (k := 4) (fs := [va_rf (h.2.2 a 0), va_rf (h.2.2 a 1), va_rf (h.2.2 a 2), va_rf (h.2.2 a 3), .int (h.2.1 a 4), .int (h.2.1 a 5), .int (h.2.1 a 6), .int (h.2.1 a 7), .int (h.2.1 a 8), .int (h.2.1 a 9), .int (h.2.1 a 10)]) (C := RX3) (T := TX3) (N := 11) (th_at ha) ⟨in_X3, rfl, by decide, hlk, rfl⟩ rfl hdg kk
theorem pu_0_4 (hC : mx D vwC5 (th_tys cs) th_sx th_nw A p m c cc nL s args TB own) (hM : mw D vwC5 A s.heap (th_g cs h) H locs) (ha : h.1 a = some (0, 0)) (hlk : Cond.fieldLink own index RX3 "objectsThere" "I" ∈ TB) {v : Int32} (hdg : decode cc pc = .ok (.putfield index, 3))
    (kk : ∀ (H : Heap) (locs : List Loc), mw D vwC5 A s.heap (th_g cs (th_ui h a 4 v)) H locs → W p l e R s m args below meth c H locs cells slots Q (F0 m (pc + 3) ls rest)) : W p l e R s m args below meth c H locs cells slots Q (F0 m pc ls (.int v :: .ref a :: rest)) := by
  refine mw_put hC hM (ci := 3) (k := 4) (fs := [va_rf (h.2.2 a 0), va_rf (h.2.2 a 1), va_rf (h.2.2 a 2), va_rf (h.2.2 a 3), .int (h.2.1 a 4), .int (h.2.1 a 5), .int (h.2.1 a 6), .int (h.2.1 a 7), .int (h.2.1 a 8), .int (h.2.1 a 9), .int (h.2.1 a 10)]) (C := RX3) (T := TX3) (N := 11) (ty0 := tyX3) (ty := .int) (th_at ha) ⟨in_X3, rfl, by decide, hlk, rfl⟩ ⟨ok_X3, nm_X3, by decide +kernel⟩ rfl rfl rfl (Nat.le_of_ble_eq_true rfl) hdg (fun H1 locs1 hM1 => kk H1 locs1 ?_)
  rw [← th_upi (k := 4) (v := v) ha]
  exact hM1
theorem gi_0_5 (hC : mx D vwC5 (th_tys cs) th_sx th_nw A p m c cc nL s args TB own) (hM : mw D vwC5 A s.heap (th_g cs h) H locs) (ha : h.1 a = some (0, 0)) (hlk : Cond.fieldLink own index RX3 "objectsHeld" "I" ∈ TB) (hdg : decode cc pc = .ok (.getfield index, 3))
    (kk : W p l e R s m args below meth c H locs cells slots Q (F0 m (pc + 3) ls (.int (h.2.1 a 5) :: rest))) : W p l e R s m args below meth c H locs cells slots Q (F0 m pc ls (.ref a :: rest)) :=
  mw_get hC hM (ci := 3) (k := 5) (fs := [va_rf (h.2.2 a 0), va_rf (h.2.2 a 1), va_rf (h.2.2 a 2), va_rf (h.2.2 a 3), .int (h.2.1 a 4), .int (h.2.1 a 5), .int (h.2.1 a 6), .int (h.2.1 a 7), .int (h.2.1 a 8), .int (h.2.1 a 9), .int (h.2.1 a 10)]) (C := RX3) (T := TX3) (N := 11) (th_at ha) ⟨in_X3, rfl, by decide, hlk, rfl⟩ rfl hdg kk
theorem pu_0_5 (hC : mx D vwC5 (th_tys cs) th_sx th_nw A p m c cc nL s args TB own) (hM : mw D vwC5 A s.heap (th_g cs h) H locs) (ha : h.1 a = some (0, 0)) (hlk : Cond.fieldLink own index RX3 "objectsHeld" "I" ∈ TB) {v : Int32} (hdg : decode cc pc = .ok (.putfield index, 3))
    (kk : ∀ (H : Heap) (locs : List Loc), mw D vwC5 A s.heap (th_g cs (th_ui h a 5 v)) H locs → W p l e R s m args below meth c H locs cells slots Q (F0 m (pc + 3) ls rest)) : W p l e R s m args below meth c H locs cells slots Q (F0 m pc ls (.int v :: .ref a :: rest)) := by
  refine mw_put hC hM (ci := 3) (k := 5) (fs := [va_rf (h.2.2 a 0), va_rf (h.2.2 a 1), va_rf (h.2.2 a 2), va_rf (h.2.2 a 3), .int (h.2.1 a 4), .int (h.2.1 a 5), .int (h.2.1 a 6), .int (h.2.1 a 7), .int (h.2.1 a 8), .int (h.2.1 a 9), .int (h.2.1 a 10)]) (C := RX3) (T := TX3) (N := 11) (ty0 := tyX3) (ty := .int) (th_at ha) ⟨in_X3, rfl, by decide, hlk, rfl⟩ ⟨ok_X3, nm_X3, by decide +kernel⟩ rfl rfl rfl (Nat.le_of_ble_eq_true rfl) hdg (fun H1 locs1 hM1 => kk H1 locs1 ?_)
  rw [← th_upi (k := 5) (v := v) ha]
  exact hM1
theorem gi_0_6 (hC : mx D vwC5 (th_tys cs) th_sx th_nw A p m c cc nL s args TB own) (hM : mw D vwC5 A s.heap (th_g cs h) H locs) (ha : h.1 a = some (0, 0)) (hlk : Cond.fieldLink own index RX3 "handlesGiven" "I" ∈ TB) (hdg : decode cc pc = .ok (.getfield index, 3))
    (kk : W p l e R s m args below meth c H locs cells slots Q (F0 m (pc + 3) ls (.int (h.2.1 a 6) :: rest))) : W p l e R s m args below meth c H locs cells slots Q (F0 m pc ls (.ref a :: rest)) :=
  mw_get hC hM (ci := 3) (k := 6) (fs := [va_rf (h.2.2 a 0), va_rf (h.2.2 a 1), va_rf (h.2.2 a 2), va_rf (h.2.2 a 3), .int (h.2.1 a 4), .int (h.2.1 a 5), .int (h.2.1 a 6), .int (h.2.1 a 7), .int (h.2.1 a 8), .int (h.2.1 a 9), .int (h.2.1 a 10)]) (C := RX3) (T := TX3) (N := 11) (th_at ha) ⟨in_X3, rfl, by decide, hlk, rfl⟩ rfl hdg kk
theorem pu_0_6 (hC : mx D vwC5 (th_tys cs) th_sx th_nw A p m c cc nL s args TB own) (hM : mw D vwC5 A s.heap (th_g cs h) H locs) (ha : h.1 a = some (0, 0)) (hlk : Cond.fieldLink own index RX3 "handlesGiven" "I" ∈ TB) {v : Int32} (hdg : decode cc pc = .ok (.putfield index, 3))
    (kk : ∀ (H : Heap) (locs : List Loc), mw D vwC5 A s.heap (th_g cs (th_ui h a 6 v)) H locs → W p l e R s m args below meth c H locs cells slots Q (F0 m (pc + 3) ls rest)) : W p l e R s m args below meth c H locs cells slots Q (F0 m pc ls (.int v :: .ref a :: rest)) := by
  refine mw_put hC hM (ci := 3) (k := 6) (fs := [va_rf (h.2.2 a 0), va_rf (h.2.2 a 1), va_rf (h.2.2 a 2), va_rf (h.2.2 a 3), .int (h.2.1 a 4), .int (h.2.1 a 5), .int (h.2.1 a 6), .int (h.2.1 a 7), .int (h.2.1 a 8), .int (h.2.1 a 9), .int (h.2.1 a 10)]) (C := RX3) (T := TX3) (N := 11) (ty0 := tyX3) (ty := .int) (th_at ha) ⟨in_X3, rfl, by decide, hlk, rfl⟩ ⟨ok_X3, nm_X3, by decide +kernel⟩ rfl rfl rfl (Nat.le_of_ble_eq_true rfl) hdg (fun H1 locs1 hM1 => kk H1 locs1 ?_)
  rw [← th_upi (k := 6) (v := v) ha]
  exact hM1
theorem gi_0_7 (hC : mx D vwC5 (th_tys cs) th_sx th_nw A p m c cc nL s args TB own) (hM : mw D vwC5 A s.heap (th_g cs h) H locs) (ha : h.1 a = some (0, 0)) (hlk : Cond.fieldLink own index RX3 "wordsUsed" "I" ∈ TB) (hdg : decode cc pc = .ok (.getfield index, 3))
    (kk : W p l e R s m args below meth c H locs cells slots Q (F0 m (pc + 3) ls (.int (h.2.1 a 7) :: rest))) : W p l e R s m args below meth c H locs cells slots Q (F0 m pc ls (.ref a :: rest)) :=
  mw_get hC hM (ci := 3) (k := 7) (fs := [va_rf (h.2.2 a 0), va_rf (h.2.2 a 1), va_rf (h.2.2 a 2), va_rf (h.2.2 a 3), .int (h.2.1 a 4), .int (h.2.1 a 5), .int (h.2.1 a 6), .int (h.2.1 a 7), .int (h.2.1 a 8), .int (h.2.1 a 9), .int (h.2.1 a 10)]) (C := RX3) (T := TX3) (N := 11) (th_at ha) ⟨in_X3, rfl, by decide, hlk, rfl⟩ rfl hdg kk
theorem pu_0_7 (hC : mx D vwC5 (th_tys cs) th_sx th_nw A p m c cc nL s args TB own) (hM : mw D vwC5 A s.heap (th_g cs h) H locs) (ha : h.1 a = some (0, 0)) (hlk : Cond.fieldLink own index RX3 "wordsUsed" "I" ∈ TB) {v : Int32} (hdg : decode cc pc = .ok (.putfield index, 3))
    (kk : ∀ (H : Heap) (locs : List Loc), mw D vwC5 A s.heap (th_g cs (th_ui h a 7 v)) H locs → W p l e R s m args below meth c H locs cells slots Q (F0 m (pc + 3) ls rest)) : W p l e R s m args below meth c H locs cells slots Q (F0 m pc ls (.int v :: .ref a :: rest)) := by
  refine mw_put hC hM (ci := 3) (k := 7) (fs := [va_rf (h.2.2 a 0), va_rf (h.2.2 a 1), va_rf (h.2.2 a 2), va_rf (h.2.2 a 3), .int (h.2.1 a 4), .int (h.2.1 a 5), .int (h.2.1 a 6), .int (h.2.1 a 7), .int (h.2.1 a 8), .int (h.2.1 a 9), .int (h.2.1 a 10)]) (C := RX3) (T := TX3) (N := 11) (ty0 := tyX3) (ty := .int) (th_at ha) ⟨in_X3, rfl, by decide, hlk, rfl⟩ ⟨ok_X3, nm_X3, by decide +kernel⟩ rfl rfl rfl (Nat.le_of_ble_eq_true rfl) hdg (fun H1 locs1 hM1 => kk H1 locs1 ?_)
  rw [← th_upi (k := 7) (v := v) ha]
  exact hM1
theorem gi_0_8 (hC : mx D vwC5 (th_tys cs) th_sx th_nw A p m c cc nL s args TB own) (hM : mw D vwC5 A s.heap (th_g cs h) H locs) (ha : h.1 a = some (0, 0)) (hlk : Cond.fieldLink own index RX3 "wordsOfEnded" "I" ∈ TB) (hdg : decode cc pc = .ok (.getfield index, 3))
    (kk : W p l e R s m args below meth c H locs cells slots Q (F0 m (pc + 3) ls (.int (h.2.1 a 8) :: rest))) : W p l e R s m args below meth c H locs cells slots Q (F0 m pc ls (.ref a :: rest)) :=
  mw_get hC hM (ci := 3) (k := 8) (fs := [va_rf (h.2.2 a 0), va_rf (h.2.2 a 1), va_rf (h.2.2 a 2), va_rf (h.2.2 a 3), .int (h.2.1 a 4), .int (h.2.1 a 5), .int (h.2.1 a 6), .int (h.2.1 a 7), .int (h.2.1 a 8), .int (h.2.1 a 9), .int (h.2.1 a 10)]) (C := RX3) (T := TX3) (N := 11) (th_at ha) ⟨in_X3, rfl, by decide, hlk, rfl⟩ rfl hdg kk
theorem pu_0_8 (hC : mx D vwC5 (th_tys cs) th_sx th_nw A p m c cc nL s args TB own) (hM : mw D vwC5 A s.heap (th_g cs h) H locs) (ha : h.1 a = some (0, 0)) (hlk : Cond.fieldLink own index RX3 "wordsOfEnded" "I" ∈ TB) {v : Int32} (hdg : decode cc pc = .ok (.putfield index, 3))
    (kk : ∀ (H : Heap) (locs : List Loc), mw D vwC5 A s.heap (th_g cs (th_ui h a 8 v)) H locs → W p l e R s m args below meth c H locs cells slots Q (F0 m (pc + 3) ls rest)) : W p l e R s m args below meth c H locs cells slots Q (F0 m pc ls (.int v :: .ref a :: rest)) := by
  refine mw_put hC hM (ci := 3) (k := 8) (fs := [va_rf (h.2.2 a 0), va_rf (h.2.2 a 1), va_rf (h.2.2 a 2), va_rf (h.2.2 a 3), .int (h.2.1 a 4), .int (h.2.1 a 5), .int (h.2.1 a 6), .int (h.2.1 a 7), .int (h.2.1 a 8), .int (h.2.1 a 9), .int (h.2.1 a 10)]) (C := RX3) (T := TX3) (N := 11) (ty0 := tyX3) (ty := .int) (th_at ha) ⟨in_X3, rfl, by decide, hlk, rfl⟩ ⟨ok_X3, nm_X3, by decide +kernel⟩ rfl rfl rfl (Nat.le_of_ble_eq_true rfl) hdg (fun H1 locs1 hM1 => kk H1 locs1 ?_)
  rw [← th_upi (k := 8) (v := v) ha]
  exact hM1
theorem gi_0_9 (hC : mx D vwC5 (th_tys cs) th_sx th_nw A p m c cc nL s args TB own) (hM : mw D vwC5 A s.heap (th_g cs h) H locs) (ha : h.1 a = some (0, 0)) (hlk : Cond.fieldLink own index RX3 "transactionsBegun" "I" ∈ TB) (hdg : decode cc pc = .ok (.getfield index, 3))
    (kk : W p l e R s m args below meth c H locs cells slots Q (F0 m (pc + 3) ls (.int (h.2.1 a 9) :: rest))) : W p l e R s m args below meth c H locs cells slots Q (F0 m pc ls (.ref a :: rest)) :=
  mw_get hC hM (ci := 3) (k := 9) (fs := [va_rf (h.2.2 a 0), va_rf (h.2.2 a 1), va_rf (h.2.2 a 2), va_rf (h.2.2 a 3), .int (h.2.1 a 4), .int (h.2.1 a 5), .int (h.2.1 a 6), .int (h.2.1 a 7), .int (h.2.1 a 8), .int (h.2.1 a 9), .int (h.2.1 a 10)]) (C := RX3) (T := TX3) (N := 11) (th_at ha) ⟨in_X3, rfl, by decide, hlk, rfl⟩ rfl hdg kk
theorem pu_0_9 (hC : mx D vwC5 (th_tys cs) th_sx th_nw A p m c cc nL s args TB own) (hM : mw D vwC5 A s.heap (th_g cs h) H locs) (ha : h.1 a = some (0, 0)) (hlk : Cond.fieldLink own index RX3 "transactionsBegun" "I" ∈ TB) {v : Int32} (hdg : decode cc pc = .ok (.putfield index, 3))
    (kk : ∀ (H : Heap) (locs : List Loc), mw D vwC5 A s.heap (th_g cs (th_ui h a 9 v)) H locs → W p l e R s m args below meth c H locs cells slots Q (F0 m (pc + 3) ls rest)) : W p l e R s m args below meth c H locs cells slots Q (F0 m pc ls (.int v :: .ref a :: rest)) := by
  refine mw_put hC hM (ci := 3) (k := 9) (fs := [va_rf (h.2.2 a 0), va_rf (h.2.2 a 1), va_rf (h.2.2 a 2), va_rf (h.2.2 a 3), .int (h.2.1 a 4), .int (h.2.1 a 5), .int (h.2.1 a 6), .int (h.2.1 a 7), .int (h.2.1 a 8), .int (h.2.1 a 9), .int (h.2.1 a 10)]) (C := RX3) (T := TX3) (N := 11) (ty0 := tyX3) (ty := .int) (th_at ha) ⟨in_X3, rfl, by decide, hlk, rfl⟩ ⟨ok_X3, nm_X3, by decide +kernel⟩ rfl rfl rfl (Nat.le_of_ble_eq_true rfl) hdg (fun H1 locs1 hM1 => kk H1 locs1 ?_)
  rw [← th_upi (k := 9) (v := v) ha]
  exact hM1
theorem gi_0_10 (hC : mx D vwC5 (th_tys cs) th_sx th_nw A p m c cc nL s args TB own) (hM : mw D vwC5 A s.heap (th_g cs h) H locs) (ha : h.1 a = some (0, 0)) (hlk : Cond.fieldLink own index RX3 "flips" "I" ∈ TB) (hdg : decode cc pc = .ok (.getfield index, 3))
    (kk : W p l e R s m args below meth c H locs cells slots Q (F0 m (pc + 3) ls (.int (h.2.1 a 10) :: rest))) : W p l e R s m args below meth c H locs cells slots Q (F0 m pc ls (.ref a :: rest)) :=
  mw_get hC hM (ci := 3) (k := 10) (fs := [va_rf (h.2.2 a 0), va_rf (h.2.2 a 1), va_rf (h.2.2 a 2), va_rf (h.2.2 a 3), .int (h.2.1 a 4), .int (h.2.1 a 5), .int (h.2.1 a 6), .int (h.2.1 a 7), .int (h.2.1 a 8), .int (h.2.1 a 9), .int (h.2.1 a 10)]) (C := RX3) (T := TX3) (N := 11) (th_at ha) ⟨in_X3, rfl, by decide, hlk, rfl⟩ rfl hdg kk
theorem pu_0_10 (hC : mx D vwC5 (th_tys cs) th_sx th_nw A p m c cc nL s args TB own) (hM : mw D vwC5 A s.heap (th_g cs h) H locs) (ha : h.1 a = some (0, 0)) (hlk : Cond.fieldLink own index RX3 "flips" "I" ∈ TB) {v : Int32} (hdg : decode cc pc = .ok (.putfield index, 3))
    (kk : ∀ (H : Heap) (locs : List Loc), mw D vwC5 A s.heap (th_g cs (th_ui h a 10 v)) H locs → W p l e R s m args below meth c H locs cells slots Q (F0 m (pc + 3) ls rest)) : W p l e R s m args below meth c H locs cells slots Q (F0 m pc ls (.int v :: .ref a :: rest)) := by
  refine mw_put hC hM (ci := 3) (k := 10) (fs := [va_rf (h.2.2 a 0), va_rf (h.2.2 a 1), va_rf (h.2.2 a 2), va_rf (h.2.2 a 3), .int (h.2.1 a 4), .int (h.2.1 a 5), .int (h.2.1 a 6), .int (h.2.1 a 7), .int (h.2.1 a 8), .int (h.2.1 a 9), .int (h.2.1 a 10)]) (C := RX3) (T := TX3) (N := 11) (ty0 := tyX3) (ty := .int) (th_at ha) ⟨in_X3, rfl, by decide, hlk, rfl⟩ ⟨ok_X3, nm_X3, by decide +kernel⟩ rfl rfl rfl (Nat.le_of_ble_eq_true rfl) hdg (fun H1 locs1 hM1 => kk H1 locs1 ?_)
  rw [← th_upi (k := 10) (v := v) ha]
  exact hM1
theorem nw_0 (hC : mx D vwC5 (th_tys cs) th_sx th_nw A p m c cc nL s args TB own) (hM : mw D vwC5 A s.heap (th_g cs h) H locs) (h1 : Cond.classLink own index RX3 ∈ TB) (h2 : Cond.instantiable RX3 11 ∈ TB) (h3 : Cond.initialized RX3 ∈ TB) (hcells : cells + 1 ≤ R.cells) (hslots : slots + 11 ≤ R.slots) (hdg : decode cc pc = .ok (.new index, 3))
    (kk : ∀ (q : Nat) (H : Heap), h.1 q = none → mw D vwC5 A s.heap (th_g cs (th_un h q (0, 0))) H locs → W p l e R s m args below meth c H locs (cells + 1) (slots + 11) Q (F0 m (pc + 3) ls (.ref q :: rest))) : W p l e R s m args below meth c H locs cells slots Q (F0 m pc ls rest) := by
  refine mw_new hC hM (ci := 3) (C := RX3) (T := TX3) (N := 11) (ty := tyX3) (fs := [.null, .null, .null, .null, .int 0, .int 0, .int 0, .int 0, .int 0, .int 0, .int 0]) ⟨in_X3, ok_X3, h1, h2, h3, rfl⟩ (fun j hj => by rcases (show j = 0 ∨ j = 1 ∨ j = 2 ∨ j = 3 ∨ j = 4 ∨ j = 5 ∨ j = 6 ∨ j = 7 ∨ j = 8 ∨ j = 9 ∨ j = 10 by omega) with rfl | rfl | rfl | rfl | rfl | rfl | rfl | rfl | rfl | rfl | rfl <;> rfl) hcells hslots hdg (fun q H1 hq hM1 => kk q H1 (th_none hq) ?_)
  rw [← th_upn]
  exact hM1
theorem gi_1_0 (hC : mx D vwC5 (th_tys cs) th_sx th_nw A p m c cc nL s args TB own) (hM : mw D vwC5 A s.heap (th_g cs h) H locs) (ha : h.1 a = some (1, 0)) (hlk : Cond.fieldLink own index RX2 "number" "I" ∈ TB) (hdg : decode cc pc = .ok (.getfield index, 3))
    (kk : W p l e R s m args below meth c H locs cells slots Q (F0 m (pc + 3) ls (.int (h.2.1 a 0) :: rest))) : W p l e R s m args below meth c H locs cells slots Q (F0 m pc ls (.ref a :: rest)) :=
  mw_get hC hM (ci := 2) (k := 0) (fs := [.int (h.2.1 a 0), .int (h.2.1 a 1)]) (C := RX2) (T := TX2) (N := 2) (th_at ha) ⟨in_X2, rfl, by decide, hlk, rfl⟩ rfl hdg kk
theorem pu_1_0 (hC : mx D vwC5 (th_tys cs) th_sx th_nw A p m c cc nL s args TB own) (hM : mw D vwC5 A s.heap (th_g cs h) H locs) (ha : h.1 a = some (1, 0)) (hlk : Cond.fieldLink own index RX2 "number" "I" ∈ TB) {v : Int32} (hdg : decode cc pc = .ok (.putfield index, 3))
    (kk : ∀ (H : Heap) (locs : List Loc), mw D vwC5 A s.heap (th_g cs (th_ui h a 0 v)) H locs → W p l e R s m args below meth c H locs cells slots Q (F0 m (pc + 3) ls rest)) : W p l e R s m args below meth c H locs cells slots Q (F0 m pc ls (.int v :: .ref a :: rest)) := by
  refine mw_put hC hM (ci := 2) (k := 0) (fs := [.int (h.2.1 a 0), .int (h.2.1 a 1)]) (C := RX2) (T := TX2) (N := 2) (ty0 := tyX2) (ty := .int) (th_at ha) ⟨in_X2, rfl, by decide, hlk, rfl⟩ ⟨ok_X2, nm_X2, by decide +kernel⟩ rfl rfl rfl (Nat.le_of_ble_eq_true rfl) hdg (fun H1 locs1 hM1 => kk H1 locs1 ?_)
  rw [← th_upi (k := 0) (v := v) ha]
  exact hM1
theorem gi_1_1 (hC : mx D vwC5 (th_tys cs) th_sx th_nw A p m c cc nL s args TB own) (hM : mw D vwC5 A s.heap (th_g cs h) H locs) (ha : h.1 a = some (1, 0)) (hlk : Cond.fieldLink own index RX2 "words" "I" ∈ TB) (hdg : decode cc pc = .ok (.getfield index, 3))
    (kk : W p l e R s m args below meth c H locs cells slots Q (F0 m (pc + 3) ls (.int (h.2.1 a 1) :: rest))) : W p l e R s m args below meth c H locs cells slots Q (F0 m pc ls (.ref a :: rest)) :=
  mw_get hC hM (ci := 2) (k := 1) (fs := [.int (h.2.1 a 0), .int (h.2.1 a 1)]) (C := RX2) (T := TX2) (N := 2) (th_at ha) ⟨in_X2, rfl, by decide, hlk, rfl⟩ rfl hdg kk
theorem pu_1_1 (hC : mx D vwC5 (th_tys cs) th_sx th_nw A p m c cc nL s args TB own) (hM : mw D vwC5 A s.heap (th_g cs h) H locs) (ha : h.1 a = some (1, 0)) (hlk : Cond.fieldLink own index RX2 "words" "I" ∈ TB) {v : Int32} (hdg : decode cc pc = .ok (.putfield index, 3))
    (kk : ∀ (H : Heap) (locs : List Loc), mw D vwC5 A s.heap (th_g cs (th_ui h a 1 v)) H locs → W p l e R s m args below meth c H locs cells slots Q (F0 m (pc + 3) ls rest)) : W p l e R s m args below meth c H locs cells slots Q (F0 m pc ls (.int v :: .ref a :: rest)) := by
  refine mw_put hC hM (ci := 2) (k := 1) (fs := [.int (h.2.1 a 0), .int (h.2.1 a 1)]) (C := RX2) (T := TX2) (N := 2) (ty0 := tyX2) (ty := .int) (th_at ha) ⟨in_X2, rfl, by decide, hlk, rfl⟩ ⟨ok_X2, nm_X2, by decide +kernel⟩ rfl rfl rfl (Nat.le_of_ble_eq_true rfl) hdg (fun H1 locs1 hM1 => kk H1 locs1 ?_)
  rw [← th_upi (k := 1) (v := v) ha]
  exact hM1
theorem nw_1 (hC : mx D vwC5 (th_tys cs) th_sx th_nw A p m c cc nL s args TB own) (hM : mw D vwC5 A s.heap (th_g cs h) H locs) (h1 : Cond.classLink own index RX2 ∈ TB) (h2 : Cond.instantiable RX2 2 ∈ TB) (h3 : Cond.initialized RX2 ∈ TB) (hcells : cells + 1 ≤ R.cells) (hslots : slots + 2 ≤ R.slots) (hdg : decode cc pc = .ok (.new index, 3))
    (kk : ∀ (q : Nat) (H : Heap), h.1 q = none → mw D vwC5 A s.heap (th_g cs (th_un h q (1, 0))) H locs → W p l e R s m args below meth c H locs (cells + 1) (slots + 2) Q (F0 m (pc + 3) ls (.ref q :: rest))) : W p l e R s m args below meth c H locs cells slots Q (F0 m pc ls rest) := by
  refine mw_new hC hM (ci := 2) (C := RX2) (T := TX2) (N := 2) (ty := tyX2) (fs := [.int 0, .int 0]) ⟨in_X2, ok_X2, h1, h2, h3, rfl⟩ (fun j hj => by rcases (show j = 0 ∨ j = 1 by omega) with rfl | rfl <;> rfl) hcells hslots hdg (fun q H1 hq hM1 => kk q H1 (th_none hq) ?_)
  rw [← th_upn]
  exact hM1
theorem gi_2_0 (hC : mx D vwC5 (th_tys cs) th_sx th_nw A p m c cc nL s args TB own) (hM : mw D vwC5 A s.heap (th_g cs h) H locs) (ha : h.1 a = some (2, 0)) (hlk : Cond.fieldLink own index RX0 "handle" "I" ∈ TB) (hdg : decode cc pc = .ok (.getfield index, 3))
    (kk : W p l e R s m args below meth c H locs cells slots Q (F0 m (pc + 3) ls (.int (h.2.1 a 0) :: rest))) : W p l e R s m args below meth c H locs cells slots Q (F0 m pc ls (.ref a :: rest)) :=
  mw_get hC hM (ci := 0) (k := 0) (fs := [.int (h.2.1 a 0), va_rf (h.2.2 a 1), .int (h.2.1 a 2), .int (h.2.1 a 3)]) (C := RX0) (T := TX0) (N := 4) (th_at ha) ⟨in_X0, rfl, by decide, hlk, rfl⟩ rfl hdg kk
theorem pu_2_0 (hC : mx D vwC5 (th_tys cs) th_sx th_nw A p m c cc nL s args TB own) (hM : mw D vwC5 A s.heap (th_g cs h) H locs) (ha : h.1 a = some (2, 0)) (hlk : Cond.fieldLink own index RX0 "handle" "I" ∈ TB) (hin2 : meth.name = "<init>") (hdecl : RX0 = own) {v : Int32} (hdg : decode cc pc = .ok (.putfield index, 3))
    (kk : ∀ (H : Heap) (locs : List Loc), mw D vwC5 A s.heap (th_g cs (th_ui h a 0 v)) H locs → W p l e R s m args below meth c H locs cells slots Q (F0 m (pc + 3) ls rest)) : W p l e R s m args below meth c H locs cells slots Q (F0 m pc ls (.int v :: .ref a :: rest)) := by
  refine mw_putF hC hM (ci := 0) (k := 0) (fs := [.int (h.2.1 a 0), va_rf (h.2.2 a 1), .int (h.2.1 a 2), .int (h.2.1 a 3)]) (C := RX0) (T := TX0) (N := 4) (ty0 := tyX0) (ty := .int) (th_at ha) ⟨in_X0, rfl, by decide, hlk, rfl⟩ ⟨ok_X0, nm_X0, by decide +kernel⟩ rfl hin2 hdecl rfl rfl (Nat.le_of_ble_eq_true rfl) hdg (fun H1 locs1 hM1 => kk H1 locs1 ?_)
  rw [← th_upi (k := 0) (v := v) ha]
  exact hM1
theorem gr_2_1 (hC : mx D vwC5 (th_tys cs) th_sx th_nw A p m c cc nL s args TB own) (hM : mw D vwC5 A s.heap (th_g cs h) H locs) (ha : h.1 a = some (2, 0)) (hlk : Cond.fieldLink own index RX0 "places" "[LStableHeap$Place;" ∈ TB) (hdg : decode cc pc = .ok (.getfield index, 3)) {r : Option Nat} (hr : h.2.2 a 1 = r)
    (kk : W p l e R s m args below meth c H locs cells slots Q (F0 m (pc + 3) ls (va_rf r :: rest))) : W p l e R s m args below meth c H locs cells slots Q (F0 m pc ls (.ref a :: rest)) := by
  subst hr
  exact mw_get hC hM (ci := 0) (k := 1) (fs := [.int (h.2.1 a 0), va_rf (h.2.2 a 1), .int (h.2.1 a 2), .int (h.2.1 a 3)]) (C := RX0) (T := TX0) (N := 4) (th_at ha) ⟨in_X0, rfl, by decide, hlk, rfl⟩ rfl hdg kk
theorem pu_2_1 (hC : mx D vwC5 (th_tys cs) th_sx th_nw A p m c cc nL s args TB own) (hM : mw D vwC5 A s.heap (th_g cs h) H locs) (ha : h.1 a = some (2, 0)) (hlk : Cond.fieldLink own index RX0 "places" "[LStableHeap$Place;" ∈ TB) (hin2 : meth.name = "<init>") (hdecl : RX0 = own) {v : Option Nat} (hdg : decode cc pc = .ok (.putfield index, 3))
    (kk : ∀ (H : Heap) (locs : List Loc), mw D vwC5 A s.heap (th_g cs (th_ur h a 1 v)) H locs → W p l e R s m args below meth c H locs cells slots Q (F0 m (pc + 3) ls rest)) : W p l e R s m args below meth c H locs cells slots Q (F0 m pc ls (va_rf v :: .ref a :: rest)) := by
  refine mw_putF hC hM (ci := 0) (k := 1) (fs := [.int (h.2.1 a 0), va_rf (h.2.2 a 1), .int (h.2.1 a 2), .int (h.2.1 a 3)]) (C := RX0) (T := TX0) (N := 4) (ty0 := tyX0) (ty := .array (.object "StableHeap$Place")) (th_at ha) ⟨in_X0, rfl, by decide, hlk, rfl⟩ ⟨ok_X0, nm_X0, by decide +kernel⟩ rfl hin2 hdecl (th_na _ _) (th_fa _ _) (Nat.le_of_ble_eq_true rfl) hdg (fun H1 locs1 hM1 => kk H1 locs1 ?_)
  rw [← th_upr (k := 1) (v := v) ha]
  exact hM1
theorem gi_2_2 (hC : mx D vwC5 (th_tys cs) th_sx th_nw A p m c cc nL s args TB own) (hM : mw D vwC5 A s.heap (th_g cs h) H locs) (ha : h.1 a = some (2, 0)) (hlk : Cond.fieldLink own index RX0 "owner" "I" ∈ TB) (hdg : decode cc pc = .ok (.getfield index, 3))
    (kk : W p l e R s m args below meth c H locs cells slots Q (F0 m (pc + 3) ls (.int (h.2.1 a 2) :: rest))) : W p l e R s m args below meth c H locs cells slots Q (F0 m pc ls (.ref a :: rest)) :=
  mw_get hC hM (ci := 0) (k := 2) (fs := [.int (h.2.1 a 0), va_rf (h.2.2 a 1), .int (h.2.1 a 2), .int (h.2.1 a 3)]) (C := RX0) (T := TX0) (N := 4) (th_at ha) ⟨in_X0, rfl, by decide, hlk, rfl⟩ rfl hdg kk
theorem pu_2_2 (hC : mx D vwC5 (th_tys cs) th_sx th_nw A p m c cc nL s args TB own) (hM : mw D vwC5 A s.heap (th_g cs h) H locs) (ha : h.1 a = some (2, 0)) (hlk : Cond.fieldLink own index RX0 "owner" "I" ∈ TB) {v : Int32} (hdg : decode cc pc = .ok (.putfield index, 3))
    (kk : ∀ (H : Heap) (locs : List Loc), mw D vwC5 A s.heap (th_g cs (th_ui h a 2 v)) H locs → W p l e R s m args below meth c H locs cells slots Q (F0 m (pc + 3) ls rest)) : W p l e R s m args below meth c H locs cells slots Q (F0 m pc ls (.int v :: .ref a :: rest)) := by
  refine mw_put hC hM (ci := 0) (k := 2) (fs := [.int (h.2.1 a 0), va_rf (h.2.2 a 1), .int (h.2.1 a 2), .int (h.2.1 a 3)]) (C := RX0) (T := TX0) (N := 4) (ty0 := tyX0) (ty := .int) (th_at ha) ⟨in_X0, rfl, by decide, hlk, rfl⟩ ⟨ok_X0, nm_X0, by decide +kernel⟩ rfl rfl rfl (Nat.le_of_ble_eq_true rfl) hdg (fun H1 locs1 hM1 => kk H1 locs1 ?_)
  rw [← th_upi (k := 2) (v := v) ha]
  exact hM1
theorem gi_2_3 (hC : mx D vwC5 (th_tys cs) th_sx th_nw A p m c cc nL s args TB own) (hM : mw D vwC5 A s.heap (th_g cs h) H locs) (ha : h.1 a = some (2, 0)) (hlk : Cond.fieldLink own index RX0 "isHeld" "Z" ∈ TB) (hdg : decode cc pc = .ok (.getfield index, 3))
    (kk : W p l e R s m args below meth c H locs cells slots Q (F0 m (pc + 3) ls (.int (h.2.1 a 3) :: rest))) : W p l e R s m args below meth c H locs cells slots Q (F0 m pc ls (.ref a :: rest)) :=
  mw_get hC hM (ci := 0) (k := 3) (fs := [.int (h.2.1 a 0), va_rf (h.2.2 a 1), .int (h.2.1 a 2), .int (h.2.1 a 3)]) (C := RX0) (T := TX0) (N := 4) (th_at ha) ⟨in_X0, rfl, by decide, hlk, rfl⟩ rfl hdg kk
theorem pu_2_3 (hC : mx D vwC5 (th_tys cs) th_sx th_nw A p m c cc nL s args TB own) (hM : mw D vwC5 A s.heap (th_g cs h) H locs) (ha : h.1 a = some (2, 0)) (hlk : Cond.fieldLink own index RX0 "isHeld" "Z" ∈ TB) {v : Int32} (hz : v = 0 ∨ v = 1) (hdg : decode cc pc = .ok (.putfield index, 3))
    (kk : ∀ (H : Heap) (locs : List Loc), mw D vwC5 A s.heap (th_g cs (th_ui h a 3 v)) H locs → W p l e R s m args below meth c H locs cells slots Q (F0 m (pc + 3) ls rest)) : W p l e R s m args below meth c H locs cells slots Q (F0 m pc ls (.int v :: .ref a :: rest)) := by
  refine mw_put hC hM (ci := 0) (k := 3) (fs := [.int (h.2.1 a 0), va_rf (h.2.2 a 1), .int (h.2.1 a 2), .int (h.2.1 a 3)]) (C := RX0) (T := TX0) (N := 4) (ty0 := tyX0) (ty := .boolean) (th_at ha) ⟨in_X0, rfl, by decide, hlk, rfl⟩ ⟨ok_X0, nm_X0, by decide +kernel⟩ rfl (th_nb hz) (th_fb hz) (Nat.le_of_ble_eq_true rfl) hdg (fun H1 locs1 hM1 => kk H1 locs1 ?_)
  rw [← th_upi (k := 3) (v := v) ha]
  exact hM1
theorem nw_2 (hC : mx D vwC5 (th_tys cs) th_sx th_nw A p m c cc nL s args TB own) (hM : mw D vwC5 A s.heap (th_g cs h) H locs) (h1 : Cond.classLink own index RX0 ∈ TB) (h2 : Cond.instantiable RX0 4 ∈ TB) (h3 : Cond.initialized RX0 ∈ TB) (hcells : cells + 1 ≤ R.cells) (hslots : slots + 4 ≤ R.slots) (hdg : decode cc pc = .ok (.new index, 3))
    (kk : ∀ (q : Nat) (H : Heap), h.1 q = none → mw D vwC5 A s.heap (th_g cs (th_un h q (2, 0))) H locs → W p l e R s m args below meth c H locs (cells + 1) (slots + 4) Q (F0 m (pc + 3) ls (.ref q :: rest))) : W p l e R s m args below meth c H locs cells slots Q (F0 m pc ls rest) := by
  refine mw_new hC hM (ci := 0) (C := RX0) (T := TX0) (N := 4) (ty := tyX0) (fs := [.int 0, .null, .int 0, .int 0]) ⟨in_X0, ok_X0, h1, h2, h3, rfl⟩ (fun j hj => by rcases (show j = 0 ∨ j = 1 ∨ j = 2 ∨ j = 3 by omega) with rfl | rfl | rfl | rfl <;> rfl) hcells hslots hdg (fun q H1 hq hM1 => kk q H1 (th_none hq) ?_)
  rw [← th_upn]
  exact hM1
theorem gi_3_0 (hC : mx D vwC5 (th_tys cs) th_sx th_nw A p m c cc nL s args TB own) (hM : mw D vwC5 A s.heap (th_g cs h) H locs) (ha : h.1 a = some (3, 0)) (hlk : Cond.fieldLink own index RX1 "isReference" "Z" ∈ TB) (hdg : decode cc pc = .ok (.getfield index, 3))
    (kk : W p l e R s m args below meth c H locs cells slots Q (F0 m (pc + 3) ls (.int (h.2.1 a 0) :: rest))) : W p l e R s m args below meth c H locs cells slots Q (F0 m pc ls (.ref a :: rest)) :=
  mw_get hC hM (ci := 1) (k := 0) (fs := [.int (h.2.1 a 0), .int (h.2.1 a 1), va_rf (h.2.2 a 2), .int (h.2.1 a 3), .int (h.2.1 a 4), .int (h.2.1 a 5), va_rf (h.2.2 a 6)]) (C := RX1) (T := TX1) (N := 7) (th_at ha) ⟨in_X1, rfl, by decide, hlk, rfl⟩ rfl hdg kk
theorem pu_3_0 (hC : mx D vwC5 (th_tys cs) th_sx th_nw A p m c cc nL s args TB own) (hM : mw D vwC5 A s.heap (th_g cs h) H locs) (ha : h.1 a = some (3, 0)) (hlk : Cond.fieldLink own index RX1 "isReference" "Z" ∈ TB) {v : Int32} (hz : v = 0 ∨ v = 1) (hdg : decode cc pc = .ok (.putfield index, 3))
    (kk : ∀ (H : Heap) (locs : List Loc), mw D vwC5 A s.heap (th_g cs (th_ui h a 0 v)) H locs → W p l e R s m args below meth c H locs cells slots Q (F0 m (pc + 3) ls rest)) : W p l e R s m args below meth c H locs cells slots Q (F0 m pc ls (.int v :: .ref a :: rest)) := by
  refine mw_put hC hM (ci := 1) (k := 0) (fs := [.int (h.2.1 a 0), .int (h.2.1 a 1), va_rf (h.2.2 a 2), .int (h.2.1 a 3), .int (h.2.1 a 4), .int (h.2.1 a 5), va_rf (h.2.2 a 6)]) (C := RX1) (T := TX1) (N := 7) (ty0 := tyX1) (ty := .boolean) (th_at ha) ⟨in_X1, rfl, by decide, hlk, rfl⟩ ⟨ok_X1, nm_X1, by decide +kernel⟩ rfl (th_nb hz) (th_fb hz) (Nat.le_of_ble_eq_true rfl) hdg (fun H1 locs1 hM1 => kk H1 locs1 ?_)
  rw [← th_upi (k := 0) (v := v) ha]
  exact hM1
theorem gi_3_1 (hC : mx D vwC5 (th_tys cs) th_sx th_nw A p m c cc nL s args TB own) (hM : mw D vwC5 A s.heap (th_g cs h) H locs) (ha : h.1 a = some (3, 0)) (hlk : Cond.fieldLink own index RX1 "number" "I" ∈ TB) (hdg : decode cc pc = .ok (.getfield index, 3))
    (kk : W p l e R s m args below meth c H locs cells slots Q (F0 m (pc + 3) ls (.int (h.2.1 a 1) :: rest))) : W p l e R s m args below meth c H locs cells slots Q (F0 m pc ls (.ref a :: rest)) :=
  mw_get hC hM (ci := 1) (k := 1) (fs := [.int (h.2.1 a 0), .int (h.2.1 a 1), va_rf (h.2.2 a 2), .int (h.2.1 a 3), .int (h.2.1 a 4), .int (h.2.1 a 5), va_rf (h.2.2 a 6)]) (C := RX1) (T := TX1) (N := 7) (th_at ha) ⟨in_X1, rfl, by decide, hlk, rfl⟩ rfl hdg kk
theorem pu_3_1 (hC : mx D vwC5 (th_tys cs) th_sx th_nw A p m c cc nL s args TB own) (hM : mw D vwC5 A s.heap (th_g cs h) H locs) (ha : h.1 a = some (3, 0)) (hlk : Cond.fieldLink own index RX1 "number" "I" ∈ TB) {v : Int32} (hdg : decode cc pc = .ok (.putfield index, 3))
    (kk : ∀ (H : Heap) (locs : List Loc), mw D vwC5 A s.heap (th_g cs (th_ui h a 1 v)) H locs → W p l e R s m args below meth c H locs cells slots Q (F0 m (pc + 3) ls rest)) : W p l e R s m args below meth c H locs cells slots Q (F0 m pc ls (.int v :: .ref a :: rest)) := by
  refine mw_put hC hM (ci := 1) (k := 1) (fs := [.int (h.2.1 a 0), .int (h.2.1 a 1), va_rf (h.2.2 a 2), .int (h.2.1 a 3), .int (h.2.1 a 4), .int (h.2.1 a 5), va_rf (h.2.2 a 6)]) (C := RX1) (T := TX1) (N := 7) (ty0 := tyX1) (ty := .int) (th_at ha) ⟨in_X1, rfl, by decide, hlk, rfl⟩ ⟨ok_X1, nm_X1, by decide +kernel⟩ rfl rfl rfl (Nat.le_of_ble_eq_true rfl) hdg (fun H1 locs1 hM1 => kk H1 locs1 ?_)
  rw [← th_upi (k := 1) (v := v) ha]
  exact hM1
theorem gr_3_2 (hC : mx D vwC5 (th_tys cs) th_sx th_nw A p m c cc nL s args TB own) (hM : mw D vwC5 A s.heap (th_g cs h) H locs) (ha : h.1 a = some (3, 0)) (hlk : Cond.fieldLink own index RX1 "target" "LStableHeap$Lockable;" ∈ TB) (hdg : decode cc pc = .ok (.getfield index, 3)) {r : Option Nat} (hr : h.2.2 a 2 = r)
    (kk : W p l e R s m args below meth c H locs cells slots Q (F0 m (pc + 3) ls (va_rf r :: rest))) : W p l e R s m args below meth c H locs cells slots Q (F0 m pc ls (.ref a :: rest)) := by
  subst hr
  exact mw_get hC hM (ci := 1) (k := 2) (fs := [.int (h.2.1 a 0), .int (h.2.1 a 1), va_rf (h.2.2 a 2), .int (h.2.1 a 3), .int (h.2.1 a 4), .int (h.2.1 a 5), va_rf (h.2.2 a 6)]) (C := RX1) (T := TX1) (N := 7) (th_at ha) ⟨in_X1, rfl, by decide, hlk, rfl⟩ rfl hdg kk
theorem pu_3_2 (hC : mx D vwC5 (th_tys cs) th_sx th_nw A p m c cc nL s args TB own) (hM : mw D vwC5 A s.heap (th_g cs h) H locs) (ha : h.1 a = some (3, 0)) (hlk : Cond.fieldLink own index RX1 "target" "LStableHeap$Lockable;" ∈ TB) {v : Option Nat} (hdg : decode cc pc = .ok (.putfield index, 3))
    (kk : ∀ (H : Heap) (locs : List Loc), mw D vwC5 A s.heap (th_g cs (th_ur h a 2 v)) H locs → W p l e R s m args below meth c H locs cells slots Q (F0 m (pc + 3) ls rest)) : W p l e R s m args below meth c H locs cells slots Q (F0 m pc ls (va_rf v :: .ref a :: rest)) := by
  refine mw_put hC hM (ci := 1) (k := 2) (fs := [.int (h.2.1 a 0), .int (h.2.1 a 1), va_rf (h.2.2 a 2), .int (h.2.1 a 3), .int (h.2.1 a 4), .int (h.2.1 a 5), va_rf (h.2.2 a 6)]) (C := RX1) (T := TX1) (N := 7) (ty0 := tyX1) (ty := .object "StableHeap$Lockable") (th_at ha) ⟨in_X1, rfl, by decide, hlk, rfl⟩ ⟨ok_X1, nm_X1, by decide +kernel⟩ rfl (th_no _ _) (th_fo _ _) (Nat.le_of_ble_eq_true rfl) hdg (fun H1 locs1 hM1 => kk H1 locs1 ?_)
  rw [← th_upr (k := 2) (v := v) ha]
  exact hM1
theorem gi_3_3 (hC : mx D vwC5 (th_tys cs) th_sx th_nw A p m c cc nL s args TB own) (hM : mw D vwC5 A s.heap (th_g cs h) H locs) (ha : h.1 a = some (3, 0)) (hlk : Cond.fieldLink own index RX1 "isSet" "Z" ∈ TB) (hdg : decode cc pc = .ok (.getfield index, 3))
    (kk : W p l e R s m args below meth c H locs cells slots Q (F0 m (pc + 3) ls (.int (h.2.1 a 3) :: rest))) : W p l e R s m args below meth c H locs cells slots Q (F0 m pc ls (.ref a :: rest)) :=
  mw_get hC hM (ci := 1) (k := 3) (fs := [.int (h.2.1 a 0), .int (h.2.1 a 1), va_rf (h.2.2 a 2), .int (h.2.1 a 3), .int (h.2.1 a 4), .int (h.2.1 a 5), va_rf (h.2.2 a 6)]) (C := RX1) (T := TX1) (N := 7) (th_at ha) ⟨in_X1, rfl, by decide, hlk, rfl⟩ rfl hdg kk
theorem pu_3_3 (hC : mx D vwC5 (th_tys cs) th_sx th_nw A p m c cc nL s args TB own) (hM : mw D vwC5 A s.heap (th_g cs h) H locs) (ha : h.1 a = some (3, 0)) (hlk : Cond.fieldLink own index RX1 "isSet" "Z" ∈ TB) {v : Int32} (hz : v = 0 ∨ v = 1) (hdg : decode cc pc = .ok (.putfield index, 3))
    (kk : ∀ (H : Heap) (locs : List Loc), mw D vwC5 A s.heap (th_g cs (th_ui h a 3 v)) H locs → W p l e R s m args below meth c H locs cells slots Q (F0 m (pc + 3) ls rest)) : W p l e R s m args below meth c H locs cells slots Q (F0 m pc ls (.int v :: .ref a :: rest)) := by
  refine mw_put hC hM (ci := 1) (k := 3) (fs := [.int (h.2.1 a 0), .int (h.2.1 a 1), va_rf (h.2.2 a 2), .int (h.2.1 a 3), .int (h.2.1 a 4), .int (h.2.1 a 5), va_rf (h.2.2 a 6)]) (C := RX1) (T := TX1) (N := 7) (ty0 := tyX1) (ty := .boolean) (th_at ha) ⟨in_X1, rfl, by decide, hlk, rfl⟩ ⟨ok_X1, nm_X1, by decide +kernel⟩ rfl (th_nb hz) (th_fb hz) (Nat.le_of_ble_eq_true rfl) hdg (fun H1 locs1 hM1 => kk H1 locs1 ?_)
  rw [← th_upi (k := 3) (v := v) ha]
  exact hM1
theorem gi_3_4 (hC : mx D vwC5 (th_tys cs) th_sx th_nw A p m c cc nL s args TB own) (hM : mw D vwC5 A s.heap (th_g cs h) H locs) (ha : h.1 a = some (3, 0)) (hlk : Cond.fieldLink own index RX1 "formerIsReference" "Z" ∈ TB) (hdg : decode cc pc = .ok (.getfield index, 3))
    (kk : W p l e R s m args below meth c H locs cells slots Q (F0 m (pc + 3) ls (.int (h.2.1 a 4) :: rest))) : W p l e R s m args below meth c H locs cells slots Q (F0 m pc ls (.ref a :: rest)) :=
  mw_get hC hM (ci := 1) (k := 4) (fs := [.int (h.2.1 a 0), .int (h.2.1 a 1), va_rf (h.2.2 a 2), .int (h.2.1 a 3), .int (h.2.1 a 4), .int (h.2.1 a 5), va_rf (h.2.2 a 6)]) (C := RX1) (T := TX1) (N := 7) (th_at ha) ⟨in_X1, rfl, by decide, hlk, rfl⟩ rfl hdg kk
theorem pu_3_4 (hC : mx D vwC5 (th_tys cs) th_sx th_nw A p m c cc nL s args TB own) (hM : mw D vwC5 A s.heap (th_g cs h) H locs) (ha : h.1 a = some (3, 0)) (hlk : Cond.fieldLink own index RX1 "formerIsReference" "Z" ∈ TB) {v : Int32} (hz : v = 0 ∨ v = 1) (hdg : decode cc pc = .ok (.putfield index, 3))
    (kk : ∀ (H : Heap) (locs : List Loc), mw D vwC5 A s.heap (th_g cs (th_ui h a 4 v)) H locs → W p l e R s m args below meth c H locs cells slots Q (F0 m (pc + 3) ls rest)) : W p l e R s m args below meth c H locs cells slots Q (F0 m pc ls (.int v :: .ref a :: rest)) := by
  refine mw_put hC hM (ci := 1) (k := 4) (fs := [.int (h.2.1 a 0), .int (h.2.1 a 1), va_rf (h.2.2 a 2), .int (h.2.1 a 3), .int (h.2.1 a 4), .int (h.2.1 a 5), va_rf (h.2.2 a 6)]) (C := RX1) (T := TX1) (N := 7) (ty0 := tyX1) (ty := .boolean) (th_at ha) ⟨in_X1, rfl, by decide, hlk, rfl⟩ ⟨ok_X1, nm_X1, by decide +kernel⟩ rfl (th_nb hz) (th_fb hz) (Nat.le_of_ble_eq_true rfl) hdg (fun H1 locs1 hM1 => kk H1 locs1 ?_)
  rw [← th_upi (k := 4) (v := v) ha]
  exact hM1
theorem gi_3_5 (hC : mx D vwC5 (th_tys cs) th_sx th_nw A p m c cc nL s args TB own) (hM : mw D vwC5 A s.heap (th_g cs h) H locs) (ha : h.1 a = some (3, 0)) (hlk : Cond.fieldLink own index RX1 "formerNumber" "I" ∈ TB) (hdg : decode cc pc = .ok (.getfield index, 3))
    (kk : W p l e R s m args below meth c H locs cells slots Q (F0 m (pc + 3) ls (.int (h.2.1 a 5) :: rest))) : W p l e R s m args below meth c H locs cells slots Q (F0 m pc ls (.ref a :: rest)) :=
  mw_get hC hM (ci := 1) (k := 5) (fs := [.int (h.2.1 a 0), .int (h.2.1 a 1), va_rf (h.2.2 a 2), .int (h.2.1 a 3), .int (h.2.1 a 4), .int (h.2.1 a 5), va_rf (h.2.2 a 6)]) (C := RX1) (T := TX1) (N := 7) (th_at ha) ⟨in_X1, rfl, by decide, hlk, rfl⟩ rfl hdg kk
theorem pu_3_5 (hC : mx D vwC5 (th_tys cs) th_sx th_nw A p m c cc nL s args TB own) (hM : mw D vwC5 A s.heap (th_g cs h) H locs) (ha : h.1 a = some (3, 0)) (hlk : Cond.fieldLink own index RX1 "formerNumber" "I" ∈ TB) {v : Int32} (hdg : decode cc pc = .ok (.putfield index, 3))
    (kk : ∀ (H : Heap) (locs : List Loc), mw D vwC5 A s.heap (th_g cs (th_ui h a 5 v)) H locs → W p l e R s m args below meth c H locs cells slots Q (F0 m (pc + 3) ls rest)) : W p l e R s m args below meth c H locs cells slots Q (F0 m pc ls (.int v :: .ref a :: rest)) := by
  refine mw_put hC hM (ci := 1) (k := 5) (fs := [.int (h.2.1 a 0), .int (h.2.1 a 1), va_rf (h.2.2 a 2), .int (h.2.1 a 3), .int (h.2.1 a 4), .int (h.2.1 a 5), va_rf (h.2.2 a 6)]) (C := RX1) (T := TX1) (N := 7) (ty0 := tyX1) (ty := .int) (th_at ha) ⟨in_X1, rfl, by decide, hlk, rfl⟩ ⟨ok_X1, nm_X1, by decide +kernel⟩ rfl rfl rfl (Nat.le_of_ble_eq_true rfl) hdg (fun H1 locs1 hM1 => kk H1 locs1 ?_)
  rw [← th_upi (k := 5) (v := v) ha]
  exact hM1
theorem gr_3_6 (hC : mx D vwC5 (th_tys cs) th_sx th_nw A p m c cc nL s args TB own) (hM : mw D vwC5 A s.heap (th_g cs h) H locs) (ha : h.1 a = some (3, 0)) (hlk : Cond.fieldLink own index RX1 "formerTarget" "LStableHeap$Lockable;" ∈ TB) (hdg : decode cc pc = .ok (.getfield index, 3)) {r : Option Nat} (hr : h.2.2 a 6 = r)
    (kk : W p l e R s m args below meth c H locs cells slots Q (F0 m (pc + 3) ls (va_rf r :: rest))) : W p l e R s m args below meth c H locs cells slots Q (F0 m pc ls (.ref a :: rest)) := by
  subst hr
  exact mw_get hC hM (ci := 1) (k := 6) (fs := [.int (h.2.1 a 0), .int (h.2.1 a 1), va_rf (h.2.2 a 2), .int (h.2.1 a 3), .int (h.2.1 a 4), .int (h.2.1 a 5), va_rf (h.2.2 a 6)]) (C := RX1) (T := TX1) (N := 7) (th_at ha) ⟨in_X1, rfl, by decide, hlk, rfl⟩ rfl hdg kk
theorem pu_3_6 (hC : mx D vwC5 (th_tys cs) th_sx th_nw A p m c cc nL s args TB own) (hM : mw D vwC5 A s.heap (th_g cs h) H locs) (ha : h.1 a = some (3, 0)) (hlk : Cond.fieldLink own index RX1 "formerTarget" "LStableHeap$Lockable;" ∈ TB) {v : Option Nat} (hdg : decode cc pc = .ok (.putfield index, 3))
    (kk : ∀ (H : Heap) (locs : List Loc), mw D vwC5 A s.heap (th_g cs (th_ur h a 6 v)) H locs → W p l e R s m args below meth c H locs cells slots Q (F0 m (pc + 3) ls rest)) : W p l e R s m args below meth c H locs cells slots Q (F0 m pc ls (va_rf v :: .ref a :: rest)) := by
  refine mw_put hC hM (ci := 1) (k := 6) (fs := [.int (h.2.1 a 0), .int (h.2.1 a 1), va_rf (h.2.2 a 2), .int (h.2.1 a 3), .int (h.2.1 a 4), .int (h.2.1 a 5), va_rf (h.2.2 a 6)]) (C := RX1) (T := TX1) (N := 7) (ty0 := tyX1) (ty := .object "StableHeap$Lockable") (th_at ha) ⟨in_X1, rfl, by decide, hlk, rfl⟩ ⟨ok_X1, nm_X1, by decide +kernel⟩ rfl (th_no _ _) (th_fo _ _) (Nat.le_of_ble_eq_true rfl) hdg (fun H1 locs1 hM1 => kk H1 locs1 ?_)
  rw [← th_upr (k := 6) (v := v) ha]
  exact hM1
theorem nw_3 (hC : mx D vwC5 (th_tys cs) th_sx th_nw A p m c cc nL s args TB own) (hM : mw D vwC5 A s.heap (th_g cs h) H locs) (h1 : Cond.classLink own index RX1 ∈ TB) (h2 : Cond.instantiable RX1 7 ∈ TB) (h3 : Cond.initialized RX1 ∈ TB) (hcells : cells + 1 ≤ R.cells) (hslots : slots + 7 ≤ R.slots) (hdg : decode cc pc = .ok (.new index, 3))
    (kk : ∀ (q : Nat) (H : Heap), h.1 q = none → mw D vwC5 A s.heap (th_g cs (th_un h q (3, 0))) H locs → W p l e R s m args below meth c H locs (cells + 1) (slots + 7) Q (F0 m (pc + 3) ls (.ref q :: rest))) : W p l e R s m args below meth c H locs cells slots Q (F0 m pc ls rest) := by
  refine mw_new hC hM (ci := 1) (C := RX1) (T := TX1) (N := 7) (ty := tyX1) (fs := [.int 0, .int 0, .null, .int 0, .int 0, .int 0, .null]) ⟨in_X1, ok_X1, h1, h2, h3, rfl⟩ (fun j hj => by rcases (show j = 0 ∨ j = 1 ∨ j = 2 ∨ j = 3 ∨ j = 4 ∨ j = 5 ∨ j = 6 by omega) with rfl | rfl | rfl | rfl | rfl | rfl | rfl <;> rfl) hcells hslots hdg (fun q H1 hq hM1 => kk q H1 (th_none hq) ?_)
  rw [← th_upn]
  exact hM1
theorem gi_10_0 (hC : mx D vwC5 (th_tys cs) th_sx th_nw A p m c cc nL s args TB own) (hM : mw D vwC5 A s.heap (th_g cs h) H locs) (ha : h.1 a = some (10, 0)) (hlk : Cond.fieldLink own index RX4 "code" "I" ∈ TB) (hdg : decode cc pc = .ok (.getfield index, 3))
    (kk : W p l e R s m args below meth c H locs cells slots Q (F0 m (pc + 3) ls (.int (h.2.1 a 0) :: rest))) : W p l e R s m args below meth c H locs cells slots Q (F0 m pc ls (.ref a :: rest)) :=
  mw_get hC hM (ci := 4) (k := 0) (fs := [.int (h.2.1 a 0), va_rf (h.2.2 a 1), va_rf (h.2.2 a 2), va_rf (h.2.2 a 3), va_rf (h.2.2 a 4), va_rf (h.2.2 a 5), va_rf (h.2.2 a 6), va_rf (h.2.2 a 7), va_rf (h.2.2 a 8), .int (h.2.1 a 9), .int (h.2.1 a 10), va_rf (h.2.2 a 11), va_rf (h.2.2 a 12), .int (h.2.1 a 13), .int (h.2.1 a 14), .int (h.2.1 a 15), va_rf (h.2.2 a 16), va_rf (h.2.2 a 17), va_rf (h.2.2 a 18), va_rf (h.2.2 a 19), .int (h.2.1 a 20)]) (C := RX4) (T := TX4) (N := 21) (th_at ha) ⟨in_X4, rfl, by decide, hlk, rfl⟩ rfl hdg kk
theorem pu_10_0 (hC : mx D vwC5 (th_tys cs) th_sx th_nw A p m c cc nL s args TB own) (hM : mw D vwC5 A s.heap (th_g cs h) H locs) (ha : h.1 a = some (10, 0)) (hlk : Cond.fieldLink own index RX4 "code" "I" ∈ TB) {v : Int32} (hdg : decode cc pc = .ok (.putfield index, 3))
    (kk : ∀ (H : Heap) (locs : List Loc), mw D vwC5 A s.heap (th_g cs (th_ui h a 0 v)) H locs → W p l e R s m args below meth c H locs cells slots Q (F0 m (pc + 3) ls rest)) : W p l e R s m args below meth c H locs cells slots Q (F0 m pc ls (.int v :: .ref a :: rest)) := by
  refine mw_put hC hM (ci := 4) (k := 0) (fs := [.int (h.2.1 a 0), va_rf (h.2.2 a 1), va_rf (h.2.2 a 2), va_rf (h.2.2 a 3), va_rf (h.2.2 a 4), va_rf (h.2.2 a 5), va_rf (h.2.2 a 6), va_rf (h.2.2 a 7), va_rf (h.2.2 a 8), .int (h.2.1 a 9), .int (h.2.1 a 10), va_rf (h.2.2 a 11), va_rf (h.2.2 a 12), .int (h.2.1 a 13), .int (h.2.1 a 14), .int (h.2.1 a 15), va_rf (h.2.2 a 16), va_rf (h.2.2 a 17), va_rf (h.2.2 a 18), va_rf (h.2.2 a 19), .int (h.2.1 a 20)]) (C := RX4) (T := TX4) (N := 21) (ty0 := tyX4) (ty := .int) (th_at ha) ⟨in_X4, rfl, by decide, hlk, rfl⟩ ⟨ok_X4, nm_X4, by decide +kernel⟩ rfl rfl rfl (Nat.le_of_ble_eq_true rfl) hdg (fun H1 locs1 hM1 => kk H1 locs1 ?_)
  rw [← th_upi (k := 0) (v := v) ha]
  exact hM1
theorem gr_10_1 (hC : mx D vwC5 (th_tys cs) th_sx th_nw A p m c cc nL s args TB own) (hM : mw D vwC5 A s.heap (th_g cs h) H locs) (ha : h.1 a = some (10, 0)) (hlk : Cond.fieldLink own index RX4 "handle" "[I" ∈ TB) (hdg : decode cc pc = .ok (.getfield index, 3)) {r : Option Nat} (hr : h.2.2 a 1 = r)
    (kk : W p l e R s m args below meth c H locs cells slots Q (F0 m (pc + 3) ls (va_rf r :: rest))) : W p l e R s m args below meth c H locs cells slots Q (F0 m pc ls (.ref a :: rest)) := by
  subst hr
  exact mw_get hC hM (ci := 4) (k := 1) (fs := [.int (h.2.1 a 0), va_rf (h.2.2 a 1), va_rf (h.2.2 a 2), va_rf (h.2.2 a 3), va_rf (h.2.2 a 4), va_rf (h.2.2 a 5), va_rf (h.2.2 a 6), va_rf (h.2.2 a 7), va_rf (h.2.2 a 8), .int (h.2.1 a 9), .int (h.2.1 a 10), va_rf (h.2.2 a 11), va_rf (h.2.2 a 12), .int (h.2.1 a 13), .int (h.2.1 a 14), .int (h.2.1 a 15), va_rf (h.2.2 a 16), va_rf (h.2.2 a 17), va_rf (h.2.2 a 18), va_rf (h.2.2 a 19), .int (h.2.1 a 20)]) (C := RX4) (T := TX4) (N := 21) (th_at ha) ⟨in_X4, rfl, by decide, hlk, rfl⟩ rfl hdg kk
theorem pu_10_1 (hC : mx D vwC5 (th_tys cs) th_sx th_nw A p m c cc nL s args TB own) (hM : mw D vwC5 A s.heap (th_g cs h) H locs) (ha : h.1 a = some (10, 0)) (hlk : Cond.fieldLink own index RX4 "handle" "[I" ∈ TB) (hin2 : meth.name = "<init>") (hdecl : RX4 = own) {v : Option Nat} (hdg : decode cc pc = .ok (.putfield index, 3))
    (kk : ∀ (H : Heap) (locs : List Loc), mw D vwC5 A s.heap (th_g cs (th_ur h a 1 v)) H locs → W p l e R s m args below meth c H locs cells slots Q (F0 m (pc + 3) ls rest)) : W p l e R s m args below meth c H locs cells slots Q (F0 m pc ls (va_rf v :: .ref a :: rest)) := by
  refine mw_putF hC hM (ci := 4) (k := 1) (fs := [.int (h.2.1 a 0), va_rf (h.2.2 a 1), va_rf (h.2.2 a 2), va_rf (h.2.2 a 3), va_rf (h.2.2 a 4), va_rf (h.2.2 a 5), va_rf (h.2.2 a 6), va_rf (h.2.2 a 7), va_rf (h.2.2 a 8), .int (h.2.1 a 9), .int (h.2.1 a 10), va_rf (h.2.2 a 11), va_rf (h.2.2 a 12), .int (h.2.1 a 13), .int (h.2.1 a 14), .int (h.2.1 a 15), va_rf (h.2.2 a 16), va_rf (h.2.2 a 17), va_rf (h.2.2 a 18), va_rf (h.2.2 a 19), .int (h.2.1 a 20)]) (C := RX4) (T := TX4) (N := 21) (ty0 := tyX4) (ty := .array .int) (th_at ha) ⟨in_X4, rfl, by decide, hlk, rfl⟩ ⟨ok_X4, nm_X4, by decide +kernel⟩ rfl hin2 hdecl (th_na _ _) (th_fa _ _) (Nat.le_of_ble_eq_true rfl) hdg (fun H1 locs1 hM1 => kk H1 locs1 ?_)
  rw [← th_upr (k := 1) (v := v) ha]
  exact hM1
theorem gr_10_2 (hC : mx D vwC5 (th_tys cs) th_sx th_nw A p m c cc nL s args TB own) (hM : mw D vwC5 A s.heap (th_g cs h) H locs) (ha : h.1 a = some (10, 0)) (hlk : Cond.fieldLink own index RX4 "size" "[I" ∈ TB) (hdg : decode cc pc = .ok (.getfield index, 3)) {r : Option Nat} (hr : h.2.2 a 2 = r)
    (kk : W p l e R s m args below meth c H locs cells slots Q (F0 m (pc + 3) ls (va_rf r :: rest))) : W p l e R s m args below meth c H locs cells slots Q (F0 m pc ls (.ref a :: rest)) := by
  subst hr
  exact mw_get hC hM (ci := 4) (k := 2) (fs := [.int (h.2.1 a 0), va_rf (h.2.2 a 1), va_rf (h.2.2 a 2), va_rf (h.2.2 a 3), va_rf (h.2.2 a 4), va_rf (h.2.2 a 5), va_rf (h.2.2 a 6), va_rf (h.2.2 a 7), va_rf (h.2.2 a 8), .int (h.2.1 a 9), .int (h.2.1 a 10), va_rf (h.2.2 a 11), va_rf (h.2.2 a 12), .int (h.2.1 a 13), .int (h.2.1 a 14), .int (h.2.1 a 15), va_rf (h.2.2 a 16), va_rf (h.2.2 a 17), va_rf (h.2.2 a 18), va_rf (h.2.2 a 19), .int (h.2.1 a 20)]) (C := RX4) (T := TX4) (N := 21) (th_at ha) ⟨in_X4, rfl, by decide, hlk, rfl⟩ rfl hdg kk
theorem pu_10_2 (hC : mx D vwC5 (th_tys cs) th_sx th_nw A p m c cc nL s args TB own) (hM : mw D vwC5 A s.heap (th_g cs h) H locs) (ha : h.1 a = some (10, 0)) (hlk : Cond.fieldLink own index RX4 "size" "[I" ∈ TB) (hin2 : meth.name = "<init>") (hdecl : RX4 = own) {v : Option Nat} (hdg : decode cc pc = .ok (.putfield index, 3))
    (kk : ∀ (H : Heap) (locs : List Loc), mw D vwC5 A s.heap (th_g cs (th_ur h a 2 v)) H locs → W p l e R s m args below meth c H locs cells slots Q (F0 m (pc + 3) ls rest)) : W p l e R s m args below meth c H locs cells slots Q (F0 m pc ls (va_rf v :: .ref a :: rest)) := by
  refine mw_putF hC hM (ci := 4) (k := 2) (fs := [.int (h.2.1 a 0), va_rf (h.2.2 a 1), va_rf (h.2.2 a 2), va_rf (h.2.2 a 3), va_rf (h.2.2 a 4), va_rf (h.2.2 a 5), va_rf (h.2.2 a 6), va_rf (h.2.2 a 7), va_rf (h.2.2 a 8), .int (h.2.1 a 9), .int (h.2.1 a 10), va_rf (h.2.2 a 11), va_rf (h.2.2 a 12), .int (h.2.1 a 13), .int (h.2.1 a 14), .int (h.2.1 a 15), va_rf (h.2.2 a 16), va_rf (h.2.2 a 17), va_rf (h.2.2 a 18), va_rf (h.2.2 a 19), .int (h.2.1 a 20)]) (C := RX4) (T := TX4) (N := 21) (ty0 := tyX4) (ty := .array .int) (th_at ha) ⟨in_X4, rfl, by decide, hlk, rfl⟩ ⟨ok_X4, nm_X4, by decide +kernel⟩ rfl hin2 hdecl (th_na _ _) (th_fa _ _) (Nat.le_of_ble_eq_true rfl) hdg (fun H1 locs1 hM1 => kk H1 locs1 ?_)
  rw [← th_upr (k := 2) (v := v) ha]
  exact hM1
theorem gr_10_3 (hC : mx D vwC5 (th_tys cs) th_sx th_nw A p m c cc nL s args TB own) (hM : mw D vwC5 A s.heap (th_g cs h) H locs) (ha : h.1 a = some (10, 0)) (hlk : Cond.fieldLink own index RX4 "lock" "[I" ∈ TB) (hdg : decode cc pc = .ok (.getfield index, 3)) {r : Option Nat} (hr : h.2.2 a 3 = r)
    (kk : W p l e R s m args below meth c H locs cells slots Q (F0 m (pc + 3) ls (va_rf r :: rest))) : W p l e R s m args below meth c H locs cells slots Q (F0 m pc ls (.ref a :: rest)) := by
  subst hr
  exact mw_get hC hM (ci := 4) (k := 3) (fs := [.int (h.2.1 a 0), va_rf (h.2.2 a 1), va_rf (h.2.2 a 2), va_rf (h.2.2 a 3), va_rf (h.2.2 a 4), va_rf (h.2.2 a 5), va_rf (h.2.2 a 6), va_rf (h.2.2 a 7), va_rf (h.2.2 a 8), .int (h.2.1 a 9), .int (h.2.1 a 10), va_rf (h.2.2 a 11), va_rf (h.2.2 a 12), .int (h.2.1 a 13), .int (h.2.1 a 14), .int (h.2.1 a 15), va_rf (h.2.2 a 16), va_rf (h.2.2 a 17), va_rf (h.2.2 a 18), va_rf (h.2.2 a 19), .int (h.2.1 a 20)]) (C := RX4) (T := TX4) (N := 21) (th_at ha) ⟨in_X4, rfl, by decide, hlk, rfl⟩ rfl hdg kk
theorem pu_10_3 (hC : mx D vwC5 (th_tys cs) th_sx th_nw A p m c cc nL s args TB own) (hM : mw D vwC5 A s.heap (th_g cs h) H locs) (ha : h.1 a = some (10, 0)) (hlk : Cond.fieldLink own index RX4 "lock" "[I" ∈ TB) (hin2 : meth.name = "<init>") (hdecl : RX4 = own) {v : Option Nat} (hdg : decode cc pc = .ok (.putfield index, 3))
    (kk : ∀ (H : Heap) (locs : List Loc), mw D vwC5 A s.heap (th_g cs (th_ur h a 3 v)) H locs → W p l e R s m args below meth c H locs cells slots Q (F0 m (pc + 3) ls rest)) : W p l e R s m args below meth c H locs cells slots Q (F0 m pc ls (va_rf v :: .ref a :: rest)) := by
  refine mw_putF hC hM (ci := 4) (k := 3) (fs := [.int (h.2.1 a 0), va_rf (h.2.2 a 1), va_rf (h.2.2 a 2), va_rf (h.2.2 a 3), va_rf (h.2.2 a 4), va_rf (h.2.2 a 5), va_rf (h.2.2 a 6), va_rf (h.2.2 a 7), va_rf (h.2.2 a 8), .int (h.2.1 a 9), .int (h.2.1 a 10), va_rf (h.2.2 a 11), va_rf (h.2.2 a 12), .int (h.2.1 a 13), .int (h.2.1 a 14), .int (h.2.1 a 15), va_rf (h.2.2 a 16), va_rf (h.2.2 a 17), va_rf (h.2.2 a 18), va_rf (h.2.2 a 19), .int (h.2.1 a 20)]) (C := RX4) (T := TX4) (N := 21) (ty0 := tyX4) (ty := .array .int) (th_at ha) ⟨in_X4, rfl, by decide, hlk, rfl⟩ ⟨ok_X4, nm_X4, by decide +kernel⟩ rfl hin2 hdecl (th_na _ _) (th_fa _ _) (Nat.le_of_ble_eq_true rfl) hdg (fun H1 locs1 hM1 => kk H1 locs1 ?_)
  rw [← th_upr (k := 3) (v := v) ha]
  exact hM1
theorem gr_10_4 (hC : mx D vwC5 (th_tys cs) th_sx th_nw A p m c cc nL s args TB own) (hM : mw D vwC5 A s.heap (th_g cs h) H locs) (ha : h.1 a = some (10, 0)) (hlk : Cond.fieldLink own index RX4 "refers" "[Z" ∈ TB) (hdg : decode cc pc = .ok (.getfield index, 3)) {r : Option Nat} (hr : h.2.2 a 4 = r)
    (kk : W p l e R s m args below meth c H locs cells slots Q (F0 m (pc + 3) ls (va_rf r :: rest))) : W p l e R s m args below meth c H locs cells slots Q (F0 m pc ls (.ref a :: rest)) := by
  subst hr
  exact mw_get hC hM (ci := 4) (k := 4) (fs := [.int (h.2.1 a 0), va_rf (h.2.2 a 1), va_rf (h.2.2 a 2), va_rf (h.2.2 a 3), va_rf (h.2.2 a 4), va_rf (h.2.2 a 5), va_rf (h.2.2 a 6), va_rf (h.2.2 a 7), va_rf (h.2.2 a 8), .int (h.2.1 a 9), .int (h.2.1 a 10), va_rf (h.2.2 a 11), va_rf (h.2.2 a 12), .int (h.2.1 a 13), .int (h.2.1 a 14), .int (h.2.1 a 15), va_rf (h.2.2 a 16), va_rf (h.2.2 a 17), va_rf (h.2.2 a 18), va_rf (h.2.2 a 19), .int (h.2.1 a 20)]) (C := RX4) (T := TX4) (N := 21) (th_at ha) ⟨in_X4, rfl, by decide, hlk, rfl⟩ rfl hdg kk
theorem pu_10_4 (hC : mx D vwC5 (th_tys cs) th_sx th_nw A p m c cc nL s args TB own) (hM : mw D vwC5 A s.heap (th_g cs h) H locs) (ha : h.1 a = some (10, 0)) (hlk : Cond.fieldLink own index RX4 "refers" "[Z" ∈ TB) (hin2 : meth.name = "<init>") (hdecl : RX4 = own) {v : Option Nat} (hdg : decode cc pc = .ok (.putfield index, 3))
    (kk : ∀ (H : Heap) (locs : List Loc), mw D vwC5 A s.heap (th_g cs (th_ur h a 4 v)) H locs → W p l e R s m args below meth c H locs cells slots Q (F0 m (pc + 3) ls rest)) : W p l e R s m args below meth c H locs cells slots Q (F0 m pc ls (va_rf v :: .ref a :: rest)) := by
  refine mw_putF hC hM (ci := 4) (k := 4) (fs := [.int (h.2.1 a 0), va_rf (h.2.2 a 1), va_rf (h.2.2 a 2), va_rf (h.2.2 a 3), va_rf (h.2.2 a 4), va_rf (h.2.2 a 5), va_rf (h.2.2 a 6), va_rf (h.2.2 a 7), va_rf (h.2.2 a 8), .int (h.2.1 a 9), .int (h.2.1 a 10), va_rf (h.2.2 a 11), va_rf (h.2.2 a 12), .int (h.2.1 a 13), .int (h.2.1 a 14), .int (h.2.1 a 15), va_rf (h.2.2 a 16), va_rf (h.2.2 a 17), va_rf (h.2.2 a 18), va_rf (h.2.2 a 19), .int (h.2.1 a 20)]) (C := RX4) (T := TX4) (N := 21) (ty0 := tyX4) (ty := .array .boolean) (th_at ha) ⟨in_X4, rfl, by decide, hlk, rfl⟩ ⟨ok_X4, nm_X4, by decide +kernel⟩ rfl hin2 hdecl (th_na _ _) (th_fa _ _) (Nat.le_of_ble_eq_true rfl) hdg (fun H1 locs1 hM1 => kk H1 locs1 ?_)
  rw [← th_upr (k := 4) (v := v) ha]
  exact hM1
theorem gr_10_5 (hC : mx D vwC5 (th_tys cs) th_sx th_nw A p m c cc nL s args TB own) (hM : mw D vwC5 A s.heap (th_g cs h) H locs) (ha : h.1 a = some (10, 0)) (hlk : Cond.fieldLink own index RX4 "value" "[I" ∈ TB) (hdg : decode cc pc = .ok (.getfield index, 3)) {r : Option Nat} (hr : h.2.2 a 5 = r)
    (kk : W p l e R s m args below meth c H locs cells slots Q (F0 m (pc + 3) ls (va_rf r :: rest))) : W p l e R s m args below meth c H locs cells slots Q (F0 m pc ls (.ref a :: rest)) := by
  subst hr
  exact mw_get hC hM (ci := 4) (k := 5) (fs := [.int (h.2.1 a 0), va_rf (h.2.2 a 1), va_rf (h.2.2 a 2), va_rf (h.2.2 a 3), va_rf (h.2.2 a 4), va_rf (h.2.2 a 5), va_rf (h.2.2 a 6), va_rf (h.2.2 a 7), va_rf (h.2.2 a 8), .int (h.2.1 a 9), .int (h.2.1 a 10), va_rf (h.2.2 a 11), va_rf (h.2.2 a 12), .int (h.2.1 a 13), .int (h.2.1 a 14), .int (h.2.1 a 15), va_rf (h.2.2 a 16), va_rf (h.2.2 a 17), va_rf (h.2.2 a 18), va_rf (h.2.2 a 19), .int (h.2.1 a 20)]) (C := RX4) (T := TX4) (N := 21) (th_at ha) ⟨in_X4, rfl, by decide, hlk, rfl⟩ rfl hdg kk
theorem pu_10_5 (hC : mx D vwC5 (th_tys cs) th_sx th_nw A p m c cc nL s args TB own) (hM : mw D vwC5 A s.heap (th_g cs h) H locs) (ha : h.1 a = some (10, 0)) (hlk : Cond.fieldLink own index RX4 "value" "[I" ∈ TB) (hin2 : meth.name = "<init>") (hdecl : RX4 = own) {v : Option Nat} (hdg : decode cc pc = .ok (.putfield index, 3))
    (kk : ∀ (H : Heap) (locs : List Loc), mw D vwC5 A s.heap (th_g cs (th_ur h a 5 v)) H locs → W p l e R s m args below meth c H locs cells slots Q (F0 m (pc + 3) ls rest)) : W p l e R s m args below meth c H locs cells slots Q (F0 m pc ls (va_rf v :: .ref a :: rest)) := by
  refine mw_putF hC hM (ci := 4) (k := 5) (fs := [.int (h.2.1 a 0), va_rf (h.2.2 a 1), va_rf (h.2.2 a 2), va_rf (h.2.2 a 3), va_rf (h.2.2 a 4), va_rf (h.2.2 a 5), va_rf (h.2.2 a 6), va_rf (h.2.2 a 7), va_rf (h.2.2 a 8), .int (h.2.1 a 9), .int (h.2.1 a 10), va_rf (h.2.2 a 11), va_rf (h.2.2 a 12), .int (h.2.1 a 13), .int (h.2.1 a 14), .int (h.2.1 a 15), va_rf (h.2.2 a 16), va_rf (h.2.2 a 17), va_rf (h.2.2 a 18), va_rf (h.2.2 a 19), .int (h.2.1 a 20)]) (C := RX4) (T := TX4) (N := 21) (ty0 := tyX4) (ty := .array .int) (th_at ha) ⟨in_X4, rfl, by decide, hlk, rfl⟩ ⟨ok_X4, nm_X4, by decide +kernel⟩ rfl hin2 hdecl (th_na _ _) (th_fa _ _) (Nat.le_of_ble_eq_true rfl) hdg (fun H1 locs1 hM1 => kk H1 locs1 ?_)
  rw [← th_upr (k := 5) (v := v) ha]
  exact hM1
theorem gr_10_6 (hC : mx D vwC5 (th_tys cs) th_sx th_nw A p m c cc nL s args TB own) (hM : mw D vwC5 A s.heap (th_g cs h) H locs) (ha : h.1 a = some (10, 0)) (hlk : Cond.fieldLink own index RX4 "held" "[Z" ∈ TB) (hdg : decode cc pc = .ok (.getfield index, 3)) {r : Option Nat} (hr : h.2.2 a 6 = r)
    (kk : W p l e R s m args below meth c H locs cells slots Q (F0 m (pc + 3) ls (va_rf r :: rest))) : W p l e R s m args below meth c H locs cells slots Q (F0 m pc ls (.ref a :: rest)) := by
  subst hr
  exact mw_get hC hM (ci := 4) (k := 6) (fs := [.int (h.2.1 a 0), va_rf (h.2.2 a 1), va_rf (h.2.2 a 2), va_rf (h.2.2 a 3), va_rf (h.2.2 a 4), va_rf (h.2.2 a 5), va_rf (h.2.2 a 6), va_rf (h.2.2 a 7), va_rf (h.2.2 a 8), .int (h.2.1 a 9), .int (h.2.1 a 10), va_rf (h.2.2 a 11), va_rf (h.2.2 a 12), .int (h.2.1 a 13), .int (h.2.1 a 14), .int (h.2.1 a 15), va_rf (h.2.2 a 16), va_rf (h.2.2 a 17), va_rf (h.2.2 a 18), va_rf (h.2.2 a 19), .int (h.2.1 a 20)]) (C := RX4) (T := TX4) (N := 21) (th_at ha) ⟨in_X4, rfl, by decide, hlk, rfl⟩ rfl hdg kk
theorem pu_10_6 (hC : mx D vwC5 (th_tys cs) th_sx th_nw A p m c cc nL s args TB own) (hM : mw D vwC5 A s.heap (th_g cs h) H locs) (ha : h.1 a = some (10, 0)) (hlk : Cond.fieldLink own index RX4 "held" "[Z" ∈ TB) (hin2 : meth.name = "<init>") (hdecl : RX4 = own) {v : Option Nat} (hdg : decode cc pc = .ok (.putfield index, 3))
    (kk : ∀ (H : Heap) (locs : List Loc), mw D vwC5 A s.heap (th_g cs (th_ur h a 6 v)) H locs → W p l e R s m args below meth c H locs cells slots Q (F0 m (pc + 3) ls rest)) : W p l e R s m args below meth c H locs cells slots Q (F0 m pc ls (va_rf v :: .ref a :: rest)) := by
  refine mw_putF hC hM (ci := 4) (k := 6) (fs := [.int (h.2.1 a 0), va_rf (h.2.2 a 1), va_rf (h.2.2 a 2), va_rf (h.2.2 a 3), va_rf (h.2.2 a 4), va_rf (h.2.2 a 5), va_rf (h.2.2 a 6), va_rf (h.2.2 a 7), va_rf (h.2.2 a 8), .int (h.2.1 a 9), .int (h.2.1 a 10), va_rf (h.2.2 a 11), va_rf (h.2.2 a 12), .int (h.2.1 a 13), .int (h.2.1 a 14), .int (h.2.1 a 15), va_rf (h.2.2 a 16), va_rf (h.2.2 a 17), va_rf (h.2.2 a 18), va_rf (h.2.2 a 19), .int (h.2.1 a 20)]) (C := RX4) (T := TX4) (N := 21) (ty0 := tyX4) (ty := .array .boolean) (th_at ha) ⟨in_X4, rfl, by decide, hlk, rfl⟩ ⟨ok_X4, nm_X4, by decide +kernel⟩ rfl hin2 hdecl (th_na _ _) (th_fa _ _) (Nat.le_of_ble_eq_true rfl) hdg (fun H1 locs1 hM1 => kk H1 locs1 ?_)
  rw [← th_upr (k := 6) (v := v) ha]
  exact hM1
theorem gr_10_7 (hC : mx D vwC5 (th_tys cs) th_sx th_nw A p m c cc nL s args TB own) (hM : mw D vwC5 A s.heap (th_g cs h) H locs) (ha : h.1 a = some (10, 0)) (hlk : Cond.fieldLink own index RX4 "root" "[I" ∈ TB) (hdg : decode cc pc = .ok (.getfield index, 3)) {r : Option Nat} (hr : h.2.2 a 7 = r)
    (kk : W p l e R s m args below meth c H locs cells slots Q (F0 m (pc + 3) ls (va_rf r :: rest))) : W p l e R s m args below meth c H locs cells slots Q (F0 m pc ls (.ref a :: rest)) := by
  subst hr
  exact mw_get hC hM (ci := 4) (k := 7) (fs := [.int (h.2.1 a 0), va_rf (h.2.2 a 1), va_rf (h.2.2 a 2), va_rf (h.2.2 a 3), va_rf (h.2.2 a 4), va_rf (h.2.2 a 5), va_rf (h.2.2 a 6), va_rf (h.2.2 a 7), va_rf (h.2.2 a 8), .int (h.2.1 a 9), .int (h.2.1 a 10), va_rf (h.2.2 a 11), va_rf (h.2.2 a 12), .int (h.2.1 a 13), .int (h.2.1 a 14), .int (h.2.1 a 15), va_rf (h.2.2 a 16), va_rf (h.2.2 a 17), va_rf (h.2.2 a 18), va_rf (h.2.2 a 19), .int (h.2.1 a 20)]) (C := RX4) (T := TX4) (N := 21) (th_at ha) ⟨in_X4, rfl, by decide, hlk, rfl⟩ rfl hdg kk
theorem pu_10_7 (hC : mx D vwC5 (th_tys cs) th_sx th_nw A p m c cc nL s args TB own) (hM : mw D vwC5 A s.heap (th_g cs h) H locs) (ha : h.1 a = some (10, 0)) (hlk : Cond.fieldLink own index RX4 "root" "[I" ∈ TB) (hin2 : meth.name = "<init>") (hdecl : RX4 = own) {v : Option Nat} (hdg : decode cc pc = .ok (.putfield index, 3))
    (kk : ∀ (H : Heap) (locs : List Loc), mw D vwC5 A s.heap (th_g cs (th_ur h a 7 v)) H locs → W p l e R s m args below meth c H locs cells slots Q (F0 m (pc + 3) ls rest)) : W p l e R s m args below meth c H locs cells slots Q (F0 m pc ls (va_rf v :: .ref a :: rest)) := by
  refine mw_putF hC hM (ci := 4) (k := 7) (fs := [.int (h.2.1 a 0), va_rf (h.2.2 a 1), va_rf (h.2.2 a 2), va_rf (h.2.2 a 3), va_rf (h.2.2 a 4), va_rf (h.2.2 a 5), va_rf (h.2.2 a 6), va_rf (h.2.2 a 7), va_rf (h.2.2 a 8), .int (h.2.1 a 9), .int (h.2.1 a 10), va_rf (h.2.2 a 11), va_rf (h.2.2 a 12), .int (h.2.1 a 13), .int (h.2.1 a 14), .int (h.2.1 a 15), va_rf (h.2.2 a 16), va_rf (h.2.2 a 17), va_rf (h.2.2 a 18), va_rf (h.2.2 a 19), .int (h.2.1 a 20)]) (C := RX4) (T := TX4) (N := 21) (ty0 := tyX4) (ty := .array .int) (th_at ha) ⟨in_X4, rfl, by decide, hlk, rfl⟩ ⟨ok_X4, nm_X4, by decide +kernel⟩ rfl hin2 hdecl (th_na _ _) (th_fa _ _) (Nat.le_of_ble_eq_true rfl) hdg (fun H1 locs1 hM1 => kk H1 locs1 ?_)
  rw [← th_upr (k := 7) (v := v) ha]
  exact hM1
theorem gr_10_8 (hC : mx D vwC5 (th_tys cs) th_sx th_nw A p m c cc nL s args TB own) (hM : mw D vwC5 A s.heap (th_g cs h) H locs) (ha : h.1 a = some (10, 0)) (hlk : Cond.fieldLink own index RX4 "rootLock" "[I" ∈ TB) (hdg : decode cc pc = .ok (.getfield index, 3)) {r : Option Nat} (hr : h.2.2 a 8 = r)
    (kk : W p l e R s m args below meth c H locs cells slots Q (F0 m (pc + 3) ls (va_rf r :: rest))) : W p l e R s m args below meth c H locs cells slots Q (F0 m pc ls (.ref a :: rest)) := by
  subst hr
  exact mw_get hC hM (ci := 4) (k := 8) (fs := [.int (h.2.1 a 0), va_rf (h.2.2 a 1), va_rf (h.2.2 a 2), va_rf (h.2.2 a 3), va_rf (h.2.2 a 4), va_rf (h.2.2 a 5), va_rf (h.2.2 a 6), va_rf (h.2.2 a 7), va_rf (h.2.2 a 8), .int (h.2.1 a 9), .int (h.2.1 a 10), va_rf (h.2.2 a 11), va_rf (h.2.2 a 12), .int (h.2.1 a 13), .int (h.2.1 a 14), .int (h.2.1 a 15), va_rf (h.2.2 a 16), va_rf (h.2.2 a 17), va_rf (h.2.2 a 18), va_rf (h.2.2 a 19), .int (h.2.1 a 20)]) (C := RX4) (T := TX4) (N := 21) (th_at ha) ⟨in_X4, rfl, by decide, hlk, rfl⟩ rfl hdg kk
theorem pu_10_8 (hC : mx D vwC5 (th_tys cs) th_sx th_nw A p m c cc nL s args TB own) (hM : mw D vwC5 A s.heap (th_g cs h) H locs) (ha : h.1 a = some (10, 0)) (hlk : Cond.fieldLink own index RX4 "rootLock" "[I" ∈ TB) (hin2 : meth.name = "<init>") (hdecl : RX4 = own) {v : Option Nat} (hdg : decode cc pc = .ok (.putfield index, 3))
    (kk : ∀ (H : Heap) (locs : List Loc), mw D vwC5 A s.heap (th_g cs (th_ur h a 8 v)) H locs → W p l e R s m args below meth c H locs cells slots Q (F0 m (pc + 3) ls rest)) : W p l e R s m args below meth c H locs cells slots Q (F0 m pc ls (va_rf v :: .ref a :: rest)) := by
  refine mw_putF hC hM (ci := 4) (k := 8) (fs := [.int (h.2.1 a 0), va_rf (h.2.2 a 1), va_rf (h.2.2 a 2), va_rf (h.2.2 a 3), va_rf (h.2.2 a 4), va_rf (h.2.2 a 5), va_rf (h.2.2 a 6), va_rf (h.2.2 a 7), va_rf (h.2.2 a 8), .int (h.2.1 a 9), .int (h.2.1 a 10), va_rf (h.2.2 a 11), va_rf (h.2.2 a 12), .int (h.2.1 a 13), .int (h.2.1 a 14), .int (h.2.1 a 15), va_rf (h.2.2 a 16), va_rf (h.2.2 a 17), va_rf (h.2.2 a 18), va_rf (h.2.2 a 19), .int (h.2.1 a 20)]) (C := RX4) (T := TX4) (N := 21) (ty0 := tyX4) (ty := .array .int) (th_at ha) ⟨in_X4, rfl, by decide, hlk, rfl⟩ ⟨ok_X4, nm_X4, by decide +kernel⟩ rfl hin2 hdecl (th_na _ _) (th_fa _ _) (Nat.le_of_ble_eq_true rfl) hdg (fun H1 locs1 hM1 => kk H1 locs1 ?_)
  rw [← th_upr (k := 8) (v := v) ha]
  exact hM1
theorem gi_10_9 (hC : mx D vwC5 (th_tys cs) th_sx th_nw A p m c cc nL s args TB own) (hM : mw D vwC5 A s.heap (th_g cs h) H locs) (ha : h.1 a = some (10, 0)) (hlk : Cond.fieldLink own index RX4 "given" "I" ∈ TB) (hdg : decode cc pc = .ok (.getfield index, 3))
    (kk : W p l e R s m args below meth c H locs cells slots Q (F0 m (pc + 3) ls (.int (h.2.1 a 9) :: rest))) : W p l e R s m args below meth c H locs cells slots Q (F0 m pc ls (.ref a :: rest)) :=
  mw_get hC hM (ci := 4) (k := 9) (fs := [.int (h.2.1 a 0), va_rf (h.2.2 a 1), va_rf (h.2.2 a 2), va_rf (h.2.2 a 3), va_rf (h.2.2 a 4), va_rf (h.2.2 a 5), va_rf (h.2.2 a 6), va_rf (h.2.2 a 7), va_rf (h.2.2 a 8), .int (h.2.1 a 9), .int (h.2.1 a 10), va_rf (h.2.2 a 11), va_rf (h.2.2 a 12), .int (h.2.1 a 13), .int (h.2.1 a 14), .int (h.2.1 a 15), va_rf (h.2.2 a 16), va_rf (h.2.2 a 17), va_rf (h.2.2 a 18), va_rf (h.2.2 a 19), .int (h.2.1 a 20)]) (C := RX4) (T := TX4) (N := 21) (th_at ha) ⟨in_X4, rfl, by decide, hlk, rfl⟩ rfl hdg kk
theorem pu_10_9 (hC : mx D vwC5 (th_tys cs) th_sx th_nw A p m c cc nL s args TB own) (hM : mw D vwC5 A s.heap (th_g cs h) H locs) (ha : h.1 a = some (10, 0)) (hlk : Cond.fieldLink own index RX4 "given" "I" ∈ TB) {v : Int32} (hdg : decode cc pc = .ok (.putfield index, 3))
    (kk : ∀ (H : Heap) (locs : List Loc), mw D vwC5 A s.heap (th_g cs (th_ui h a 9 v)) H locs → W p l e R s m args below meth c H locs cells slots Q (F0 m (pc + 3) ls rest)) : W p l e R s m args below meth c H locs cells slots Q (F0 m pc ls (.int v :: .ref a :: rest)) := by
  refine mw_put hC hM (ci := 4) (k := 9) (fs := [.int (h.2.1 a 0), va_rf (h.2.2 a 1), va_rf (h.2.2 a 2), va_rf (h.2.2 a 3), va_rf (h.2.2 a 4), va_rf (h.2.2 a 5), va_rf (h.2.2 a 6), va_rf (h.2.2 a 7), va_rf (h.2.2 a 8), .int (h.2.1 a 9), .int (h.2.1 a 10), va_rf (h.2.2 a 11), va_rf (h.2.2 a 12), .int (h.2.1 a 13), .int (h.2.1 a 14), .int (h.2.1 a 15), va_rf (h.2.2 a 16), va_rf (h.2.2 a 17), va_rf (h.2.2 a 18), va_rf (h.2.2 a 19), .int (h.2.1 a 20)]) (C := RX4) (T := TX4) (N := 21) (ty0 := tyX4) (ty := .int) (th_at ha) ⟨in_X4, rfl, by decide, hlk, rfl⟩ ⟨ok_X4, nm_X4, by decide +kernel⟩ rfl rfl rfl (Nat.le_of_ble_eq_true rfl) hdg (fun H1 locs1 hM1 => kk H1 locs1 ?_)
  rw [← th_upi (k := 9) (v := v) ha]
  exact hM1
theorem gi_10_10 (hC : mx D vwC5 (th_tys cs) th_sx th_nw A p m c cc nL s args TB own) (hM : mw D vwC5 A s.heap (th_g cs h) H locs) (ha : h.1 a = some (10, 0)) (hlk : Cond.fieldLink own index RX4 "used" "I" ∈ TB) (hdg : decode cc pc = .ok (.getfield index, 3))
    (kk : W p l e R s m args below meth c H locs cells slots Q (F0 m (pc + 3) ls (.int (h.2.1 a 10) :: rest))) : W p l e R s m args below meth c H locs cells slots Q (F0 m pc ls (.ref a :: rest)) :=
  mw_get hC hM (ci := 4) (k := 10) (fs := [.int (h.2.1 a 0), va_rf (h.2.2 a 1), va_rf (h.2.2 a 2), va_rf (h.2.2 a 3), va_rf (h.2.2 a 4), va_rf (h.2.2 a 5), va_rf (h.2.2 a 6), va_rf (h.2.2 a 7), va_rf (h.2.2 a 8), .int (h.2.1 a 9), .int (h.2.1 a 10), va_rf (h.2.2 a 11), va_rf (h.2.2 a 12), .int (h.2.1 a 13), .int (h.2.1 a 14), .int (h.2.1 a 15), va_rf (h.2.2 a 16), va_rf (h.2.2 a 17), va_rf (h.2.2 a 18), va_rf (h.2.2 a 19), .int (h.2.1 a 20)]) (C := RX4) (T := TX4) (N := 21) (th_at ha) ⟨in_X4, rfl, by decide, hlk, rfl⟩ rfl hdg kk
theorem pu_10_10 (hC : mx D vwC5 (th_tys cs) th_sx th_nw A p m c cc nL s args TB own) (hM : mw D vwC5 A s.heap (th_g cs h) H locs) (ha : h.1 a = some (10, 0)) (hlk : Cond.fieldLink own index RX4 "used" "I" ∈ TB) {v : Int32} (hdg : decode cc pc = .ok (.putfield index, 3))
    (kk : ∀ (H : Heap) (locs : List Loc), mw D vwC5 A s.heap (th_g cs (th_ui h a 10 v)) H locs → W p l e R s m args below meth c H locs cells slots Q (F0 m (pc + 3) ls rest)) : W p l e R s m args below meth c H locs cells slots Q (F0 m pc ls (.int v :: .ref a :: rest)) := by
  refine mw_put hC hM (ci := 4) (k := 10) (fs := [.int (h.2.1 a 0), va_rf (h.2.2 a 1), va_rf (h.2.2 a 2), va_rf (h.2.2 a 3), va_rf (h.2.2 a 4), va_rf (h.2.2 a 5), va_rf (h.2.2 a 6), va_rf (h.2.2 a 7), va_rf (h.2.2 a 8), .int (h.2.1 a 9), .int (h.2.1 a 10), va_rf (h.2.2 a 11), va_rf (h.2.2 a 12), .int (h.2.1 a 13), .int (h.2.1 a 14), .int (h.2.1 a 15), va_rf (h.2.2 a 16), va_rf (h.2.2 a 17), va_rf (h.2.2 a 18), va_rf (h.2.2 a 19), .int (h.2.1 a 20)]) (C := RX4) (T := TX4) (N := 21) (ty0 := tyX4) (ty := .int) (th_at ha) ⟨in_X4, rfl, by decide, hlk, rfl⟩ ⟨ok_X4, nm_X4, by decide +kernel⟩ rfl rfl rfl (Nat.le_of_ble_eq_true rfl) hdg (fun H1 locs1 hM1 => kk H1 locs1 ?_)
  rw [← th_upi (k := 10) (v := v) ha]
  exact hM1
theorem gr_10_11 (hC : mx D vwC5 (th_tys cs) th_sx th_nw A p m c cc nL s args TB own) (hM : mw D vwC5 A s.heap (th_g cs h) H locs) (ha : h.1 a = some (10, 0)) (hlk : Cond.fieldLink own index RX4 "active" "[I" ∈ TB) (hdg : decode cc pc = .ok (.getfield index, 3)) {r : Option Nat} (hr : h.2.2 a 11 = r)
    (kk : W p l e R s m args below meth c H locs cells slots Q (F0 m (pc + 3) ls (va_rf r :: rest))) : W p l e R s m args below meth c H locs cells slots Q (F0 m pc ls (.ref a :: rest)) := by
  subst hr
  exact mw_get hC hM (ci := 4) (k := 11) (fs := [.int (h.2.1 a 0), va_rf (h.2.2 a 1), va_rf (h.2.2 a 2), va_rf (h.2.2 a 3), va_rf (h.2.2 a 4), va_rf (h.2.2 a 5), va_rf (h.2.2 a 6), va_rf (h.2.2 a 7), va_rf (h.2.2 a 8), .int (h.2.1 a 9), .int (h.2.1 a 10), va_rf (h.2.2 a 11), va_rf (h.2.2 a 12), .int (h.2.1 a 13), .int (h.2.1 a 14), .int (h.2.1 a 15), va_rf (h.2.2 a 16), va_rf (h.2.2 a 17), va_rf (h.2.2 a 18), va_rf (h.2.2 a 19), .int (h.2.1 a 20)]) (C := RX4) (T := TX4) (N := 21) (th_at ha) ⟨in_X4, rfl, by decide, hlk, rfl⟩ rfl hdg kk
theorem pu_10_11 (hC : mx D vwC5 (th_tys cs) th_sx th_nw A p m c cc nL s args TB own) (hM : mw D vwC5 A s.heap (th_g cs h) H locs) (ha : h.1 a = some (10, 0)) (hlk : Cond.fieldLink own index RX4 "active" "[I" ∈ TB) (hin2 : meth.name = "<init>") (hdecl : RX4 = own) {v : Option Nat} (hdg : decode cc pc = .ok (.putfield index, 3))
    (kk : ∀ (H : Heap) (locs : List Loc), mw D vwC5 A s.heap (th_g cs (th_ur h a 11 v)) H locs → W p l e R s m args below meth c H locs cells slots Q (F0 m (pc + 3) ls rest)) : W p l e R s m args below meth c H locs cells slots Q (F0 m pc ls (va_rf v :: .ref a :: rest)) := by
  refine mw_putF hC hM (ci := 4) (k := 11) (fs := [.int (h.2.1 a 0), va_rf (h.2.2 a 1), va_rf (h.2.2 a 2), va_rf (h.2.2 a 3), va_rf (h.2.2 a 4), va_rf (h.2.2 a 5), va_rf (h.2.2 a 6), va_rf (h.2.2 a 7), va_rf (h.2.2 a 8), .int (h.2.1 a 9), .int (h.2.1 a 10), va_rf (h.2.2 a 11), va_rf (h.2.2 a 12), .int (h.2.1 a 13), .int (h.2.1 a 14), .int (h.2.1 a 15), va_rf (h.2.2 a 16), va_rf (h.2.2 a 17), va_rf (h.2.2 a 18), va_rf (h.2.2 a 19), .int (h.2.1 a 20)]) (C := RX4) (T := TX4) (N := 21) (ty0 := tyX4) (ty := .array .int) (th_at ha) ⟨in_X4, rfl, by decide, hlk, rfl⟩ ⟨ok_X4, nm_X4, by decide +kernel⟩ rfl hin2 hdecl (th_na _ _) (th_fa _ _) (Nat.le_of_ble_eq_true rfl) hdg (fun H1 locs1 hM1 => kk H1 locs1 ?_)
  rw [← th_upr (k := 11) (v := v) ha]
  exact hM1
theorem gr_10_12 (hC : mx D vwC5 (th_tys cs) th_sx th_nw A p m c cc nL s args TB own) (hM : mw D vwC5 A s.heap (th_g cs h) H locs) (ha : h.1 a = some (10, 0)) (hlk : Cond.fieldLink own index RX4 "words" "[I" ∈ TB) (hdg : decode cc pc = .ok (.getfield index, 3)) {r : Option Nat} (hr : h.2.2 a 12 = r)
    (kk : W p l e R s m args below meth c H locs cells slots Q (F0 m (pc + 3) ls (va_rf r :: rest))) : W p l e R s m args below meth c H locs cells slots Q (F0 m pc ls (.ref a :: rest)) := by
  subst hr
  exact mw_get hC hM (ci := 4) (k := 12) (fs := [.int (h.2.1 a 0), va_rf (h.2.2 a 1), va_rf (h.2.2 a 2), va_rf (h.2.2 a 3), va_rf (h.2.2 a 4), va_rf (h.2.2 a 5), va_rf (h.2.2 a 6), va_rf (h.2.2 a 7), va_rf (h.2.2 a 8), .int (h.2.1 a 9), .int (h.2.1 a 10), va_rf (h.2.2 a 11), va_rf (h.2.2 a 12), .int (h.2.1 a 13), .int (h.2.1 a 14), .int (h.2.1 a 15), va_rf (h.2.2 a 16), va_rf (h.2.2 a 17), va_rf (h.2.2 a 18), va_rf (h.2.2 a 19), .int (h.2.1 a 20)]) (C := RX4) (T := TX4) (N := 21) (th_at ha) ⟨in_X4, rfl, by decide, hlk, rfl⟩ rfl hdg kk
theorem pu_10_12 (hC : mx D vwC5 (th_tys cs) th_sx th_nw A p m c cc nL s args TB own) (hM : mw D vwC5 A s.heap (th_g cs h) H locs) (ha : h.1 a = some (10, 0)) (hlk : Cond.fieldLink own index RX4 "words" "[I" ∈ TB) (hin2 : meth.name = "<init>") (hdecl : RX4 = own) {v : Option Nat} (hdg : decode cc pc = .ok (.putfield index, 3))
    (kk : ∀ (H : Heap) (locs : List Loc), mw D vwC5 A s.heap (th_g cs (th_ur h a 12 v)) H locs → W p l e R s m args below meth c H locs cells slots Q (F0 m (pc + 3) ls rest)) : W p l e R s m args below meth c H locs cells slots Q (F0 m pc ls (va_rf v :: .ref a :: rest)) := by
  refine mw_putF hC hM (ci := 4) (k := 12) (fs := [.int (h.2.1 a 0), va_rf (h.2.2 a 1), va_rf (h.2.2 a 2), va_rf (h.2.2 a 3), va_rf (h.2.2 a 4), va_rf (h.2.2 a 5), va_rf (h.2.2 a 6), va_rf (h.2.2 a 7), va_rf (h.2.2 a 8), .int (h.2.1 a 9), .int (h.2.1 a 10), va_rf (h.2.2 a 11), va_rf (h.2.2 a 12), .int (h.2.1 a 13), .int (h.2.1 a 14), .int (h.2.1 a 15), va_rf (h.2.2 a 16), va_rf (h.2.2 a 17), va_rf (h.2.2 a 18), va_rf (h.2.2 a 19), .int (h.2.1 a 20)]) (C := RX4) (T := TX4) (N := 21) (ty0 := tyX4) (ty := .array .int) (th_at ha) ⟨in_X4, rfl, by decide, hlk, rfl⟩ ⟨ok_X4, nm_X4, by decide +kernel⟩ rfl hin2 hdecl (th_na _ _) (th_fa _ _) (Nat.le_of_ble_eq_true rfl) hdg (fun H1 locs1 hM1 => kk H1 locs1 ?_)
  rw [← th_upr (k := 12) (v := v) ha]
  exact hM1
theorem gi_10_13 (hC : mx D vwC5 (th_tys cs) th_sx th_nw A p m c cc nL s args TB own) (hM : mw D vwC5 A s.heap (th_g cs h) H locs) (ha : h.1 a = some (10, 0)) (hlk : Cond.fieldLink own index RX4 "begun" "I" ∈ TB) (hdg : decode cc pc = .ok (.getfield index, 3))
    (kk : W p l e R s m args below meth c H locs cells slots Q (F0 m (pc + 3) ls (.int (h.2.1 a 13) :: rest))) : W p l e R s m args below meth c H locs cells slots Q (F0 m pc ls (.ref a :: rest)) :=
  mw_get hC hM (ci := 4) (k := 13) (fs := [.int (h.2.1 a 0), va_rf (h.2.2 a 1), va_rf (h.2.2 a 2), va_rf (h.2.2 a 3), va_rf (h.2.2 a 4), va_rf (h.2.2 a 5), va_rf (h.2.2 a 6), va_rf (h.2.2 a 7), va_rf (h.2.2 a 8), .int (h.2.1 a 9), .int (h.2.1 a 10), va_rf (h.2.2 a 11), va_rf (h.2.2 a 12), .int (h.2.1 a 13), .int (h.2.1 a 14), .int (h.2.1 a 15), va_rf (h.2.2 a 16), va_rf (h.2.2 a 17), va_rf (h.2.2 a 18), va_rf (h.2.2 a 19), .int (h.2.1 a 20)]) (C := RX4) (T := TX4) (N := 21) (th_at ha) ⟨in_X4, rfl, by decide, hlk, rfl⟩ rfl hdg kk
theorem pu_10_13 (hC : mx D vwC5 (th_tys cs) th_sx th_nw A p m c cc nL s args TB own) (hM : mw D vwC5 A s.heap (th_g cs h) H locs) (ha : h.1 a = some (10, 0)) (hlk : Cond.fieldLink own index RX4 "begun" "I" ∈ TB) {v : Int32} (hdg : decode cc pc = .ok (.putfield index, 3))
    (kk : ∀ (H : Heap) (locs : List Loc), mw D vwC5 A s.heap (th_g cs (th_ui h a 13 v)) H locs → W p l e R s m args below meth c H locs cells slots Q (F0 m (pc + 3) ls rest)) : W p l e R s m args below meth c H locs cells slots Q (F0 m pc ls (.int v :: .ref a :: rest)) := by
  refine mw_put hC hM (ci := 4) (k := 13) (fs := [.int (h.2.1 a 0), va_rf (h.2.2 a 1), va_rf (h.2.2 a 2), va_rf (h.2.2 a 3), va_rf (h.2.2 a 4), va_rf (h.2.2 a 5), va_rf (h.2.2 a 6), va_rf (h.2.2 a 7), va_rf (h.2.2 a 8), .int (h.2.1 a 9), .int (h.2.1 a 10), va_rf (h.2.2 a 11), va_rf (h.2.2 a 12), .int (h.2.1 a 13), .int (h.2.1 a 14), .int (h.2.1 a 15), va_rf (h.2.2 a 16), va_rf (h.2.2 a 17), va_rf (h.2.2 a 18), va_rf (h.2.2 a 19), .int (h.2.1 a 20)]) (C := RX4) (T := TX4) (N := 21) (ty0 := tyX4) (ty := .int) (th_at ha) ⟨in_X4, rfl, by decide, hlk, rfl⟩ ⟨ok_X4, nm_X4, by decide +kernel⟩ rfl rfl rfl (Nat.le_of_ble_eq_true rfl) hdg (fun H1 locs1 hM1 => kk H1 locs1 ?_)
  rw [← th_upi (k := 13) (v := v) ha]
  exact hM1
theorem gi_10_14 (hC : mx D vwC5 (th_tys cs) th_sx th_nw A p m c cc nL s args TB own) (hM : mw D vwC5 A s.heap (th_g cs h) H locs) (ha : h.1 a = some (10, 0)) (hlk : Cond.fieldLink own index RX4 "settled" "I" ∈ TB) (hdg : decode cc pc = .ok (.getfield index, 3))
    (kk : W p l e R s m args below meth c H locs cells slots Q (F0 m (pc + 3) ls (.int (h.2.1 a 14) :: rest))) : W p l e R s m args below meth c H locs cells slots Q (F0 m pc ls (.ref a :: rest)) :=
  mw_get hC hM (ci := 4) (k := 14) (fs := [.int (h.2.1 a 0), va_rf (h.2.2 a 1), va_rf (h.2.2 a 2), va_rf (h.2.2 a 3), va_rf (h.2.2 a 4), va_rf (h.2.2 a 5), va_rf (h.2.2 a 6), va_rf (h.2.2 a 7), va_rf (h.2.2 a 8), .int (h.2.1 a 9), .int (h.2.1 a 10), va_rf (h.2.2 a 11), va_rf (h.2.2 a 12), .int (h.2.1 a 13), .int (h.2.1 a 14), .int (h.2.1 a 15), va_rf (h.2.2 a 16), va_rf (h.2.2 a 17), va_rf (h.2.2 a 18), va_rf (h.2.2 a 19), .int (h.2.1 a 20)]) (C := RX4) (T := TX4) (N := 21) (th_at ha) ⟨in_X4, rfl, by decide, hlk, rfl⟩ rfl hdg kk
theorem pu_10_14 (hC : mx D vwC5 (th_tys cs) th_sx th_nw A p m c cc nL s args TB own) (hM : mw D vwC5 A s.heap (th_g cs h) H locs) (ha : h.1 a = some (10, 0)) (hlk : Cond.fieldLink own index RX4 "settled" "I" ∈ TB) {v : Int32} (hdg : decode cc pc = .ok (.putfield index, 3))
    (kk : ∀ (H : Heap) (locs : List Loc), mw D vwC5 A s.heap (th_g cs (th_ui h a 14 v)) H locs → W p l e R s m args below meth c H locs cells slots Q (F0 m (pc + 3) ls rest)) : W p l e R s m args below meth c H locs cells slots Q (F0 m pc ls (.int v :: .ref a :: rest)) := by
  refine mw_put hC hM (ci := 4) (k := 14) (fs := [.int (h.2.1 a 0), va_rf (h.2.2 a 1), va_rf (h.2.2 a 2), va_rf (h.2.2 a 3), va_rf (h.2.2 a 4), va_rf (h.2.2 a 5), va_rf (h.2.2 a 6), va_rf (h.2.2 a 7), va_rf (h.2.2 a 8), .int (h.2.1 a 9), .int (h.2.1 a 10), va_rf (h.2.2 a 11), va_rf (h.2.2 a 12), .int (h.2.1 a 13), .int (h.2.1 a 14), .int (h.2.1 a 15), va_rf (h.2.2 a 16), va_rf (h.2.2 a 17), va_rf (h.2.2 a 18), va_rf (h.2.2 a 19), .int (h.2.1 a 20)]) (C := RX4) (T := TX4) (N := 21) (ty0 := tyX4) (ty := .int) (th_at ha) ⟨in_X4, rfl, by decide, hlk, rfl⟩ ⟨ok_X4, nm_X4, by decide +kernel⟩ rfl rfl rfl (Nat.le_of_ble_eq_true rfl) hdg (fun H1 locs1 hM1 => kk H1 locs1 ?_)
  rw [← th_upi (k := 14) (v := v) ha]
  exact hM1
theorem gi_10_15 (hC : mx D vwC5 (th_tys cs) th_sx th_nw A p m c cc nL s args TB own) (hM : mw D vwC5 A s.heap (th_g cs h) H locs) (ha : h.1 a = some (10, 0)) (hlk : Cond.fieldLink own index RX4 "flips" "I" ∈ TB) (hdg : decode cc pc = .ok (.getfield index, 3))
    (kk : W p l e R s m args below meth c H locs cells slots Q (F0 m (pc + 3) ls (.int (h.2.1 a 15) :: rest))) : W p l e R s m args below meth c H locs cells slots Q (F0 m pc ls (.ref a :: rest)) :=
  mw_get hC hM (ci := 4) (k := 15) (fs := [.int (h.2.1 a 0), va_rf (h.2.2 a 1), va_rf (h.2.2 a 2), va_rf (h.2.2 a 3), va_rf (h.2.2 a 4), va_rf (h.2.2 a 5), va_rf (h.2.2 a 6), va_rf (h.2.2 a 7), va_rf (h.2.2 a 8), .int (h.2.1 a 9), .int (h.2.1 a 10), va_rf (h.2.2 a 11), va_rf (h.2.2 a 12), .int (h.2.1 a 13), .int (h.2.1 a 14), .int (h.2.1 a 15), va_rf (h.2.2 a 16), va_rf (h.2.2 a 17), va_rf (h.2.2 a 18), va_rf (h.2.2 a 19), .int (h.2.1 a 20)]) (C := RX4) (T := TX4) (N := 21) (th_at ha) ⟨in_X4, rfl, by decide, hlk, rfl⟩ rfl hdg kk
theorem pu_10_15 (hC : mx D vwC5 (th_tys cs) th_sx th_nw A p m c cc nL s args TB own) (hM : mw D vwC5 A s.heap (th_g cs h) H locs) (ha : h.1 a = some (10, 0)) (hlk : Cond.fieldLink own index RX4 "flips" "I" ∈ TB) {v : Int32} (hdg : decode cc pc = .ok (.putfield index, 3))
    (kk : ∀ (H : Heap) (locs : List Loc), mw D vwC5 A s.heap (th_g cs (th_ui h a 15 v)) H locs → W p l e R s m args below meth c H locs cells slots Q (F0 m (pc + 3) ls rest)) : W p l e R s m args below meth c H locs cells slots Q (F0 m pc ls (.int v :: .ref a :: rest)) := by
  refine mw_put hC hM (ci := 4) (k := 15) (fs := [.int (h.2.1 a 0), va_rf (h.2.2 a 1), va_rf (h.2.2 a 2), va_rf (h.2.2 a 3), va_rf (h.2.2 a 4), va_rf (h.2.2 a 5), va_rf (h.2.2 a 6), va_rf (h.2.2 a 7), va_rf (h.2.2 a 8), .int (h.2.1 a 9), .int (h.2.1 a 10), va_rf (h.2.2 a 11), va_rf (h.2.2 a 12), .int (h.2.1 a 13), .int (h.2.1 a 14), .int (h.2.1 a 15), va_rf (h.2.2 a 16), va_rf (h.2.2 a 17), va_rf (h.2.2 a 18), va_rf (h.2.2 a 19), .int (h.2.1 a 20)]) (C := RX4) (T := TX4) (N := 21) (ty0 := tyX4) (ty := .int) (th_at ha) ⟨in_X4, rfl, by decide, hlk, rfl⟩ ⟨ok_X4, nm_X4, by decide +kernel⟩ rfl rfl rfl (Nat.le_of_ble_eq_true rfl) hdg (fun H1 locs1 hM1 => kk H1 locs1 ?_)
  rw [← th_upi (k := 15) (v := v) ha]
  exact hM1
theorem gr_10_16 (hC : mx D vwC5 (th_tys cs) th_sx th_nw A p m c cc nL s args TB own) (hM : mw D vwC5 A s.heap (th_g cs h) H locs) (ha : h.1 a = some (10, 0)) (hlk : Cond.fieldLink own index RX4 "undoBy" "[I" ∈ TB) (hdg : decode cc pc = .ok (.getfield index, 3)) {r : Option Nat} (hr : h.2.2 a 16 = r)
    (kk : W p l e R s m args below meth c H locs cells slots Q (F0 m (pc + 3) ls (va_rf r :: rest))) : W p l e R s m args below meth c H locs cells slots Q (F0 m pc ls (.ref a :: rest)) := by
  subst hr
  exact mw_get hC hM (ci := 4) (k := 16) (fs := [.int (h.2.1 a 0), va_rf (h.2.2 a 1), va_rf (h.2.2 a 2), va_rf (h.2.2 a 3), va_rf (h.2.2 a 4), va_rf (h.2.2 a 5), va_rf (h.2.2 a 6), va_rf (h.2.2 a 7), va_rf (h.2.2 a 8), .int (h.2.1 a 9), .int (h.2.1 a 10), va_rf (h.2.2 a 11), va_rf (h.2.2 a 12), .int (h.2.1 a 13), .int (h.2.1 a 14), .int (h.2.1 a 15), va_rf (h.2.2 a 16), va_rf (h.2.2 a 17), va_rf (h.2.2 a 18), va_rf (h.2.2 a 19), .int (h.2.1 a 20)]) (C := RX4) (T := TX4) (N := 21) (th_at ha) ⟨in_X4, rfl, by decide, hlk, rfl⟩ rfl hdg kk
theorem pu_10_16 (hC : mx D vwC5 (th_tys cs) th_sx th_nw A p m c cc nL s args TB own) (hM : mw D vwC5 A s.heap (th_g cs h) H locs) (ha : h.1 a = some (10, 0)) (hlk : Cond.fieldLink own index RX4 "undoBy" "[I" ∈ TB) (hin2 : meth.name = "<init>") (hdecl : RX4 = own) {v : Option Nat} (hdg : decode cc pc = .ok (.putfield index, 3))
    (kk : ∀ (H : Heap) (locs : List Loc), mw D vwC5 A s.heap (th_g cs (th_ur h a 16 v)) H locs → W p l e R s m args below meth c H locs cells slots Q (F0 m (pc + 3) ls rest)) : W p l e R s m args below meth c H locs cells slots Q (F0 m pc ls (va_rf v :: .ref a :: rest)) := by
  refine mw_putF hC hM (ci := 4) (k := 16) (fs := [.int (h.2.1 a 0), va_rf (h.2.2 a 1), va_rf (h.2.2 a 2), va_rf (h.2.2 a 3), va_rf (h.2.2 a 4), va_rf (h.2.2 a 5), va_rf (h.2.2 a 6), va_rf (h.2.2 a 7), va_rf (h.2.2 a 8), .int (h.2.1 a 9), .int (h.2.1 a 10), va_rf (h.2.2 a 11), va_rf (h.2.2 a 12), .int (h.2.1 a 13), .int (h.2.1 a 14), .int (h.2.1 a 15), va_rf (h.2.2 a 16), va_rf (h.2.2 a 17), va_rf (h.2.2 a 18), va_rf (h.2.2 a 19), .int (h.2.1 a 20)]) (C := RX4) (T := TX4) (N := 21) (ty0 := tyX4) (ty := .array .int) (th_at ha) ⟨in_X4, rfl, by decide, hlk, rfl⟩ ⟨ok_X4, nm_X4, by decide +kernel⟩ rfl hin2 hdecl (th_na _ _) (th_fa _ _) (Nat.le_of_ble_eq_true rfl) hdg (fun H1 locs1 hM1 => kk H1 locs1 ?_)
  rw [← th_upr (k := 16) (v := v) ha]
  exact hM1
theorem gr_10_17 (hC : mx D vwC5 (th_tys cs) th_sx th_nw A p m c cc nL s args TB own) (hM : mw D vwC5 A s.heap (th_g cs h) H locs) (ha : h.1 a = some (10, 0)) (hlk : Cond.fieldLink own index RX4 "undoCell" "[I" ∈ TB) (hdg : decode cc pc = .ok (.getfield index, 3)) {r : Option Nat} (hr : h.2.2 a 17 = r)
    (kk : W p l e R s m args below meth c H locs cells slots Q (F0 m (pc + 3) ls (va_rf r :: rest))) : W p l e R s m args below meth c H locs cells slots Q (F0 m pc ls (.ref a :: rest)) := by
  subst hr
  exact mw_get hC hM (ci := 4) (k := 17) (fs := [.int (h.2.1 a 0), va_rf (h.2.2 a 1), va_rf (h.2.2 a 2), va_rf (h.2.2 a 3), va_rf (h.2.2 a 4), va_rf (h.2.2 a 5), va_rf (h.2.2 a 6), va_rf (h.2.2 a 7), va_rf (h.2.2 a 8), .int (h.2.1 a 9), .int (h.2.1 a 10), va_rf (h.2.2 a 11), va_rf (h.2.2 a 12), .int (h.2.1 a 13), .int (h.2.1 a 14), .int (h.2.1 a 15), va_rf (h.2.2 a 16), va_rf (h.2.2 a 17), va_rf (h.2.2 a 18), va_rf (h.2.2 a 19), .int (h.2.1 a 20)]) (C := RX4) (T := TX4) (N := 21) (th_at ha) ⟨in_X4, rfl, by decide, hlk, rfl⟩ rfl hdg kk
theorem pu_10_17 (hC : mx D vwC5 (th_tys cs) th_sx th_nw A p m c cc nL s args TB own) (hM : mw D vwC5 A s.heap (th_g cs h) H locs) (ha : h.1 a = some (10, 0)) (hlk : Cond.fieldLink own index RX4 "undoCell" "[I" ∈ TB) (hin2 : meth.name = "<init>") (hdecl : RX4 = own) {v : Option Nat} (hdg : decode cc pc = .ok (.putfield index, 3))
    (kk : ∀ (H : Heap) (locs : List Loc), mw D vwC5 A s.heap (th_g cs (th_ur h a 17 v)) H locs → W p l e R s m args below meth c H locs cells slots Q (F0 m (pc + 3) ls rest)) : W p l e R s m args below meth c H locs cells slots Q (F0 m pc ls (va_rf v :: .ref a :: rest)) := by
  refine mw_putF hC hM (ci := 4) (k := 17) (fs := [.int (h.2.1 a 0), va_rf (h.2.2 a 1), va_rf (h.2.2 a 2), va_rf (h.2.2 a 3), va_rf (h.2.2 a 4), va_rf (h.2.2 a 5), va_rf (h.2.2 a 6), va_rf (h.2.2 a 7), va_rf (h.2.2 a 8), .int (h.2.1 a 9), .int (h.2.1 a 10), va_rf (h.2.2 a 11), va_rf (h.2.2 a 12), .int (h.2.1 a 13), .int (h.2.1 a 14), .int (h.2.1 a 15), va_rf (h.2.2 a 16), va_rf (h.2.2 a 17), va_rf (h.2.2 a 18), va_rf (h.2.2 a 19), .int (h.2.1 a 20)]) (C := RX4) (T := TX4) (N := 21) (ty0 := tyX4) (ty := .array .int) (th_at ha) ⟨in_X4, rfl, by decide, hlk, rfl⟩ ⟨ok_X4, nm_X4, by decide +kernel⟩ rfl hin2 hdecl (th_na _ _) (th_fa _ _) (Nat.le_of_ble_eq_true rfl) hdg (fun H1 locs1 hM1 => kk H1 locs1 ?_)
  rw [← th_upr (k := 17) (v := v) ha]
  exact hM1
theorem gr_10_18 (hC : mx D vwC5 (th_tys cs) th_sx th_nw A p m c cc nL s args TB own) (hM : mw D vwC5 A s.heap (th_g cs h) H locs) (ha : h.1 a = some (10, 0)) (hlk : Cond.fieldLink own index RX4 "undoRefers" "[Z" ∈ TB) (hdg : decode cc pc = .ok (.getfield index, 3)) {r : Option Nat} (hr : h.2.2 a 18 = r)
    (kk : W p l e R s m args below meth c H locs cells slots Q (F0 m (pc + 3) ls (va_rf r :: rest))) : W p l e R s m args below meth c H locs cells slots Q (F0 m pc ls (.ref a :: rest)) := by
  subst hr
  exact mw_get hC hM (ci := 4) (k := 18) (fs := [.int (h.2.1 a 0), va_rf (h.2.2 a 1), va_rf (h.2.2 a 2), va_rf (h.2.2 a 3), va_rf (h.2.2 a 4), va_rf (h.2.2 a 5), va_rf (h.2.2 a 6), va_rf (h.2.2 a 7), va_rf (h.2.2 a 8), .int (h.2.1 a 9), .int (h.2.1 a 10), va_rf (h.2.2 a 11), va_rf (h.2.2 a 12), .int (h.2.1 a 13), .int (h.2.1 a 14), .int (h.2.1 a 15), va_rf (h.2.2 a 16), va_rf (h.2.2 a 17), va_rf (h.2.2 a 18), va_rf (h.2.2 a 19), .int (h.2.1 a 20)]) (C := RX4) (T := TX4) (N := 21) (th_at ha) ⟨in_X4, rfl, by decide, hlk, rfl⟩ rfl hdg kk
theorem pu_10_18 (hC : mx D vwC5 (th_tys cs) th_sx th_nw A p m c cc nL s args TB own) (hM : mw D vwC5 A s.heap (th_g cs h) H locs) (ha : h.1 a = some (10, 0)) (hlk : Cond.fieldLink own index RX4 "undoRefers" "[Z" ∈ TB) (hin2 : meth.name = "<init>") (hdecl : RX4 = own) {v : Option Nat} (hdg : decode cc pc = .ok (.putfield index, 3))
    (kk : ∀ (H : Heap) (locs : List Loc), mw D vwC5 A s.heap (th_g cs (th_ur h a 18 v)) H locs → W p l e R s m args below meth c H locs cells slots Q (F0 m (pc + 3) ls rest)) : W p l e R s m args below meth c H locs cells slots Q (F0 m pc ls (va_rf v :: .ref a :: rest)) := by
  refine mw_putF hC hM (ci := 4) (k := 18) (fs := [.int (h.2.1 a 0), va_rf (h.2.2 a 1), va_rf (h.2.2 a 2), va_rf (h.2.2 a 3), va_rf (h.2.2 a 4), va_rf (h.2.2 a 5), va_rf (h.2.2 a 6), va_rf (h.2.2 a 7), va_rf (h.2.2 a 8), .int (h.2.1 a 9), .int (h.2.1 a 10), va_rf (h.2.2 a 11), va_rf (h.2.2 a 12), .int (h.2.1 a 13), .int (h.2.1 a 14), .int (h.2.1 a 15), va_rf (h.2.2 a 16), va_rf (h.2.2 a 17), va_rf (h.2.2 a 18), va_rf (h.2.2 a 19), .int (h.2.1 a 20)]) (C := RX4) (T := TX4) (N := 21) (ty0 := tyX4) (ty := .array .boolean) (th_at ha) ⟨in_X4, rfl, by decide, hlk, rfl⟩ ⟨ok_X4, nm_X4, by decide +kernel⟩ rfl hin2 hdecl (th_na _ _) (th_fa _ _) (Nat.le_of_ble_eq_true rfl) hdg (fun H1 locs1 hM1 => kk H1 locs1 ?_)
  rw [← th_upr (k := 18) (v := v) ha]
  exact hM1
theorem gr_10_19 (hC : mx D vwC5 (th_tys cs) th_sx th_nw A p m c cc nL s args TB own) (hM : mw D vwC5 A s.heap (th_g cs h) H locs) (ha : h.1 a = some (10, 0)) (hlk : Cond.fieldLink own index RX4 "undoValue" "[I" ∈ TB) (hdg : decode cc pc = .ok (.getfield index, 3)) {r : Option Nat} (hr : h.2.2 a 19 = r)
    (kk : W p l e R s m args below meth c H locs cells slots Q (F0 m (pc + 3) ls (va_rf r :: rest))) : W p l e R s m args below meth c H locs cells slots Q (F0 m pc ls (.ref a :: rest)) := by
  subst hr
  exact mw_get hC hM (ci := 4) (k := 19) (fs := [.int (h.2.1 a 0), va_rf (h.2.2 a 1), va_rf (h.2.2 a 2), va_rf (h.2.2 a 3), va_rf (h.2.2 a 4), va_rf (h.2.2 a 5), va_rf (h.2.2 a 6), va_rf (h.2.2 a 7), va_rf (h.2.2 a 8), .int (h.2.1 a 9), .int (h.2.1 a 10), va_rf (h.2.2 a 11), va_rf (h.2.2 a 12), .int (h.2.1 a 13), .int (h.2.1 a 14), .int (h.2.1 a 15), va_rf (h.2.2 a 16), va_rf (h.2.2 a 17), va_rf (h.2.2 a 18), va_rf (h.2.2 a 19), .int (h.2.1 a 20)]) (C := RX4) (T := TX4) (N := 21) (th_at ha) ⟨in_X4, rfl, by decide, hlk, rfl⟩ rfl hdg kk
theorem pu_10_19 (hC : mx D vwC5 (th_tys cs) th_sx th_nw A p m c cc nL s args TB own) (hM : mw D vwC5 A s.heap (th_g cs h) H locs) (ha : h.1 a = some (10, 0)) (hlk : Cond.fieldLink own index RX4 "undoValue" "[I" ∈ TB) (hin2 : meth.name = "<init>") (hdecl : RX4 = own) {v : Option Nat} (hdg : decode cc pc = .ok (.putfield index, 3))
    (kk : ∀ (H : Heap) (locs : List Loc), mw D vwC5 A s.heap (th_g cs (th_ur h a 19 v)) H locs → W p l e R s m args below meth c H locs cells slots Q (F0 m (pc + 3) ls rest)) : W p l e R s m args below meth c H locs cells slots Q (F0 m pc ls (va_rf v :: .ref a :: rest)) := by
  refine mw_putF hC hM (ci := 4) (k := 19) (fs := [.int (h.2.1 a 0), va_rf (h.2.2 a 1), va_rf (h.2.2 a 2), va_rf (h.2.2 a 3), va_rf (h.2.2 a 4), va_rf (h.2.2 a 5), va_rf (h.2.2 a 6), va_rf (h.2.2 a 7), va_rf (h.2.2 a 8), .int (h.2.1 a 9), .int (h.2.1 a 10), va_rf (h.2.2 a 11), va_rf (h.2.2 a 12), .int (h.2.1 a 13), .int (h.2.1 a 14), .int (h.2.1 a 15), va_rf (h.2.2 a 16), va_rf (h.2.2 a 17), va_rf (h.2.2 a 18), va_rf (h.2.2 a 19), .int (h.2.1 a 20)]) (C := RX4) (T := TX4) (N := 21) (ty0 := tyX4) (ty := .array .int) (th_at ha) ⟨in_X4, rfl, by decide, hlk, rfl⟩ ⟨ok_X4, nm_X4, by decide +kernel⟩ rfl hin2 hdecl (th_na _ _) (th_fa _ _) (Nat.le_of_ble_eq_true rfl) hdg (fun H1 locs1 hM1 => kk H1 locs1 ?_)
  rw [← th_upr (k := 19) (v := v) ha]
  exact hM1
theorem gi_10_20 (hC : mx D vwC5 (th_tys cs) th_sx th_nw A p m c cc nL s args TB own) (hM : mw D vwC5 A s.heap (th_g cs h) H locs) (ha : h.1 a = some (10, 0)) (hlk : Cond.fieldLink own index RX4 "undos" "I" ∈ TB) (hdg : decode cc pc = .ok (.getfield index, 3))
    (kk : W p l e R s m args below meth c H locs cells slots Q (F0 m (pc + 3) ls (.int (h.2.1 a 20) :: rest))) : W p l e R s m args below meth c H locs cells slots Q (F0 m pc ls (.ref a :: rest)) :=
  mw_get hC hM (ci := 4) (k := 20) (fs := [.int (h.2.1 a 0), va_rf (h.2.2 a 1), va_rf (h.2.2 a 2), va_rf (h.2.2 a 3), va_rf (h.2.2 a 4), va_rf (h.2.2 a 5), va_rf (h.2.2 a 6), va_rf (h.2.2 a 7), va_rf (h.2.2 a 8), .int (h.2.1 a 9), .int (h.2.1 a 10), va_rf (h.2.2 a 11), va_rf (h.2.2 a 12), .int (h.2.1 a 13), .int (h.2.1 a 14), .int (h.2.1 a 15), va_rf (h.2.2 a 16), va_rf (h.2.2 a 17), va_rf (h.2.2 a 18), va_rf (h.2.2 a 19), .int (h.2.1 a 20)]) (C := RX4) (T := TX4) (N := 21) (th_at ha) ⟨in_X4, rfl, by decide, hlk, rfl⟩ rfl hdg kk
theorem pu_10_20 (hC : mx D vwC5 (th_tys cs) th_sx th_nw A p m c cc nL s args TB own) (hM : mw D vwC5 A s.heap (th_g cs h) H locs) (ha : h.1 a = some (10, 0)) (hlk : Cond.fieldLink own index RX4 "undos" "I" ∈ TB) {v : Int32} (hdg : decode cc pc = .ok (.putfield index, 3))
    (kk : ∀ (H : Heap) (locs : List Loc), mw D vwC5 A s.heap (th_g cs (th_ui h a 20 v)) H locs → W p l e R s m args below meth c H locs cells slots Q (F0 m (pc + 3) ls rest)) : W p l e R s m args below meth c H locs cells slots Q (F0 m pc ls (.int v :: .ref a :: rest)) := by
  refine mw_put hC hM (ci := 4) (k := 20) (fs := [.int (h.2.1 a 0), va_rf (h.2.2 a 1), va_rf (h.2.2 a 2), va_rf (h.2.2 a 3), va_rf (h.2.2 a 4), va_rf (h.2.2 a 5), va_rf (h.2.2 a 6), va_rf (h.2.2 a 7), va_rf (h.2.2 a 8), .int (h.2.1 a 9), .int (h.2.1 a 10), va_rf (h.2.2 a 11), va_rf (h.2.2 a 12), .int (h.2.1 a 13), .int (h.2.1 a 14), .int (h.2.1 a 15), va_rf (h.2.2 a 16), va_rf (h.2.2 a 17), va_rf (h.2.2 a 18), va_rf (h.2.2 a 19), .int (h.2.1 a 20)]) (C := RX4) (T := TX4) (N := 21) (ty0 := tyX4) (ty := .int) (th_at ha) ⟨in_X4, rfl, by decide, hlk, rfl⟩ ⟨ok_X4, nm_X4, by decide +kernel⟩ rfl rfl rfl (Nat.le_of_ble_eq_true rfl) hdg (fun H1 locs1 hM1 => kk H1 locs1 ?_)
  rw [← th_upi (k := 20) (v := v) ha]
  exact hM1
theorem nw_10 (hC : mx D vwC5 (th_tys cs) th_sx th_nw A p m c cc nL s args TB own) (hM : mw D vwC5 A s.heap (th_g cs h) H locs) (h1 : Cond.classLink own index RX4 ∈ TB) (h2 : Cond.instantiable RX4 21 ∈ TB) (h3 : Cond.initialized RX4 ∈ TB) (hcells : cells + 1 ≤ R.cells) (hslots : slots + 21 ≤ R.slots) (hdg : decode cc pc = .ok (.new index, 3))
    (kk : ∀ (q : Nat) (H : Heap), h.1 q = none → mw D vwC5 A s.heap (th_g cs (th_un h q (10, 0))) H locs → W p l e R s m args below meth c H locs (cells + 1) (slots + 21) Q (F0 m (pc + 3) ls (.ref q :: rest))) : W p l e R s m args below meth c H locs cells slots Q (F0 m pc ls rest) := by
  refine mw_new hC hM (ci := 4) (C := RX4) (T := TX4) (N := 21) (ty := tyX4) (fs := [.int 0, .null, .null, .null, .null, .null, .null, .null, .null, .int 0, .int 0, .null, .null, .int 0, .int 0, .int 0, .null, .null, .null, .null, .int 0]) ⟨in_X4, ok_X4, h1, h2, h3, rfl⟩ (fun j hj => by rcases (show j = 0 ∨ j = 1 ∨ j = 2 ∨ j = 3 ∨ j = 4 ∨ j = 5 ∨ j = 6 ∨ j = 7 ∨ j = 8 ∨ j = 9 ∨ j = 10 ∨ j = 11 ∨ j = 12 ∨ j = 13 ∨ j = 14 ∨ j = 15 ∨ j = 16 ∨ j = 17 ∨ j = 18 ∨ j = 19 ∨ j = 20 by omega) with rfl | rfl | rfl | rfl | rfl | rfl | rfl | rfl | rfl | rfl | rfl | rfl | rfl | rfl | rfl | rfl | rfl | rfl | rfl | rfl | rfl <;> rfl) hcells hslots hdg (fun q H1 hq hM1 => kk q H1 (th_none hq) ?_)
  rw [← th_upn]
  exact hM1
theorem an_4 (hC : mx D vwC5 (th_tys cs) th_sx th_nw A p m c cc nL s args TB own) (hM : mw D vwC5 A s.heap (th_g cs h) H locs) {n : Nat} (ha : h.1 a = some (4, n)) (hdg : decode cc pc = .ok (.arraylength, 1))
    (kk : W p l e R s m args below meth c H locs cells slots Q (F0 m (pc + 1) ls (.int (nI n) :: rest))) : W p l e R s m args below meth c H locs cells slots Q (F0 m pc ls (.ref a :: rest)) :=
  mw_alen hC hM 0 (x := (n, .inr (.inr (.inr (.inr (h.2.2 a)))))) (th_at ha) rfl rfl hdg kk
theorem al_4 (hC : mx D vwC5 (th_tys cs) th_sx th_nw A p m c cc nL s args TB own) (hM : mw D vwC5 A s.heap (th_g cs h) H locs) {n : Nat} (ha : h.1 a = some (4, n)) {i : Nat} {z : Int32} (hz : z = nI i) (hi : i < n) (hn : n < 2 ^ 31) {r : Option Nat} (hr : h.2.2 a i = r) (hdg : decode cc pc = .ok (.aaload, 1))
    (kk : W p l e R s m args below meth c H locs cells slots Q (F0 m (pc + 1) ls (va_rf r :: rest))) : W p l e R s m args below meth c H locs cells slots Q (F0 m pc ls (.int z :: .ref a :: rest)) := by
  subst hz
  refine mw_aldq hC hM 0 (n := n) (f := h.2.2 a) (th_at ha) rfl (vp_in_nI hi hn) hdg ?_
  rw [nI_clamp (Nat.lt_trans hi hn), hr]
  exact kk
theorem as_4 (hC : mx D vwC5 (th_tys cs) th_sx th_nw A p m c cc nL s args TB own) (hM : mw D vwC5 A s.heap (th_g cs h) H locs) {n : Nat} (ha : h.1 a = some (4, n)) {i : Nat} {z : Int32} (hz : z = nI i) (hi : i < n) (hn : n < 2 ^ 31) {v : Nat} (hv : h.1 v = some (2, 0)) (hdg : decode cc pc = .ok (.aastore, 1))
    (kk : ∀ (H : Heap) (locs : List Loc), mw D vwC5 A s.heap (th_g cs (th_ur h a i (some v))) H locs → W p l e R s m args below meth c H locs cells slots Q (F0 m (pc + 1) ls rest)) : W p l e R s m args below meth c H locs cells slots Q (F0 m pc ls (.ref v :: .int z :: .ref a :: rest)) := by
  subst hz
  refine mw_astq hC hM 0 0 (r := (RX0, TX0, 4)) (vs := [.int (h.2.1 v 0), va_rf (h.2.2 v 1), .int (h.2.1 v 2), .int (h.2.1 v 3)]) (n := n) (f := h.2.2 a) (th_at ha) rfl (th_at hv) rfl (vp_in_nI hi hn) hdg (fun H1 locs1 hM1 => kk H1 locs1 ?_)
  rw [nI_clamp (Nat.lt_trans hi hn)] at hM1
  rw [← th_upr (k := i) (v := some v) ha]
  exact hM1
theorem na_4 (hC : mx D vwC5 (th_tys cs) th_sx th_nw A p m c cc nL s args TB own) (hM : mw D vwC5 A s.heap (th_g cs h) H locs) (h1 : Cond.classLink own index RX0 ∈ TB) {n : Nat} {z : Int32} (hz : z = nI n) (hn : n ≤ 4096) (hcells : cells + 1 ≤ R.cells) (hslots : slots + n ≤ R.slots) (hdg : decode cc pc = .ok (.anewarray index, 3))
    (kk : ∀ (q : Nat) (H : Heap), h.1 q = none → mw D vwC5 A s.heap (th_g cs (th_un h q (4, n))) H locs → W p l e R s m args below meth c H locs (cells + 1) (slots + n) Q (F0 m (pc + 3) ls (.ref q :: rest))) : W p l e R s m args below meth c H locs cells slots Q (F0 m pc ls (.int z :: rest)) := by
  subst hz
  refine mw_newq hC hM 0 (C := RX0) h1 nw_w0 rfl (nI_pos (by omega)) (nI_clamp (by omega)) (by omega) hcells hslots hdg (fun q H1 hq hM1 => kk q H1 (th_none hq) ?_)
  rw [← th_upn]
  exact hM1
theorem an_5 (hC : mx D vwC5 (th_tys cs) th_sx th_nw A p m c cc nL s args TB own) (hM : mw D vwC5 A s.heap (th_g cs h) H locs) {n : Nat} (ha : h.1 a = some (5, n)) (hdg : decode cc pc = .ok (.arraylength, 1))
    (kk : W p l e R s m args below meth c H locs cells slots Q (F0 m (pc + 1) ls (.int (nI n) :: rest))) : W p l e R s m args below meth c H locs cells slots Q (F0 m pc ls (.ref a :: rest)) :=
  mw_alen hC hM 1 (x := (n, .inr (.inr (.inr (.inr (h.2.2 a)))))) (th_at ha) rfl rfl hdg kk
theorem al_5 (hC : mx D vwC5 (th_tys cs) th_sx th_nw A p m c cc nL s args TB own) (hM : mw D vwC5 A s.heap (th_g cs h) H locs) {n : Nat} (ha : h.1 a = some (5, n)) {i : Nat} {z : Int32} (hz : z = nI i) (hi : i < n) (hn : n < 2 ^ 31) {r : Option Nat} (hr : h.2.2 a i = r) (hdg : decode cc pc = .ok (.aaload, 1))
    (kk : W p l e R s m args below meth c H locs cells slots Q (F0 m (pc + 1) ls (va_rf r :: rest))) : W p l e R s m args below meth c H locs cells slots Q (F0 m pc ls (.int z :: .ref a :: rest)) := by
  subst hz
  refine mw_aldq hC hM 1 (n := n) (f := h.2.2 a) (th_at ha) rfl (vp_in_nI hi hn) hdg ?_
  rw [nI_clamp (Nat.lt_trans hi hn), hr]
  exact kk
theorem as_5 (hC : mx D vwC5 (th_tys cs) th_sx th_nw A p m c cc nL s args TB own) (hM : mw D vwC5 A s.heap (th_g cs h) H locs) {n : Nat} (ha : h.1 a = some (5, n)) {i : Nat} {z : Int32} (hz : z = nI i) (hi : i < n) (hn : n < 2 ^ 31) {v : Nat} (hv : h.1 v = some (1, 0)) (hdg : decode cc pc = .ok (.aastore, 1))
    (kk : ∀ (H : Heap) (locs : List Loc), mw D vwC5 A s.heap (th_g cs (th_ur h a i (some v))) H locs → W p l e R s m args below meth c H locs cells slots Q (F0 m (pc + 1) ls rest)) : W p l e R s m args below meth c H locs cells slots Q (F0 m pc ls (.ref v :: .int z :: .ref a :: rest)) := by
  subst hz
  refine mw_astq hC hM 1 2 (r := (RX2, TX2, 2)) (vs := [.int (h.2.1 v 0), .int (h.2.1 v 1)]) (n := n) (f := h.2.2 a) (th_at ha) rfl (th_at hv) rfl (vp_in_nI hi hn) hdg (fun H1 locs1 hM1 => kk H1 locs1 ?_)
  rw [nI_clamp (Nat.lt_trans hi hn)] at hM1
  rw [← th_upr (k := i) (v := some v) ha]
  exact hM1
theorem na_5 (hC : mx D vwC5 (th_tys cs) th_sx th_nw A p m c cc nL s args TB own) (hM : mw D vwC5 A s.heap (th_g cs h) H locs) (h1 : Cond.classLink own index RX2 ∈ TB) {n : Nat} {z : Int32} (hz : z = nI n) (hn : n ≤ 4096) (hcells : cells + 1 ≤ R.cells) (hslots : slots + n ≤ R.slots) (hdg : decode cc pc = .ok (.anewarray index, 3))
    (kk : ∀ (q : Nat) (H : Heap), h.1 q = none → mw D vwC5 A s.heap (th_g cs (th_un h q (5, n))) H locs → W p l e R s m args below meth c H locs (cells + 1) (slots + n) Q (F0 m (pc + 3) ls (.ref q :: rest))) : W p l e R s m args below meth c H locs cells slots Q (F0 m pc ls (.int z :: rest)) := by
  subst hz
  refine mw_newq hC hM 1 (C := RX2) h1 nw_w3 rfl (nI_pos (by omega)) (nI_clamp (by omega)) (by omega) hcells hslots hdg (fun q H1 hq hM1 => kk q H1 (th_none hq) ?_)
  rw [← th_upn]
  exact hM1
theorem an_6 (hC : mx D vwC5 (th_tys cs) th_sx th_nw A p m c cc nL s args TB own) (hM : mw D vwC5 A s.heap (th_g cs h) H locs) {n : Nat} (ha : h.1 a = some (6, n)) (hdg : decode cc pc = .ok (.arraylength, 1))
    (kk : W p l e R s m args below meth c H locs cells slots Q (F0 m (pc + 1) ls (.int (nI n) :: rest))) : W p l e R s m args below meth c H locs cells slots Q (F0 m pc ls (.ref a :: rest)) :=
  mw_alen hC hM 2 (x := (n, .inr (.inr (.inr (.inr (h.2.2 a)))))) (th_at ha) rfl rfl hdg kk
theorem al_6 (hC : mx D vwC5 (th_tys cs) th_sx th_nw A p m c cc nL s args TB own) (hM : mw D vwC5 A s.heap (th_g cs h) H locs) {n : Nat} (ha : h.1 a = some (6, n)) {i : Nat} {z : Int32} (hz : z = nI i) (hi : i < n) (hn : n < 2 ^ 31) {r : Option Nat} (hr : h.2.2 a i = r) (hdg : decode cc pc = .ok (.aaload, 1))
    (kk : W p l e R s m args below meth c H locs cells slots Q (F0 m (pc + 1) ls (va_rf r :: rest))) : W p l e R s m args below meth c H locs cells slots Q (F0 m pc ls (.int z :: .ref a :: rest)) := by
  subst hz
  refine mw_aldq hC hM 2 (n := n) (f := h.2.2 a) (th_at ha) rfl (vp_in_nI hi hn) hdg ?_
  rw [nI_clamp (Nat.lt_trans hi hn), hr]
  exact kk
theorem as_6 (hC : mx D vwC5 (th_tys cs) th_sx th_nw A p m c cc nL s args TB own) (hM : mw D vwC5 A s.heap (th_g cs h) H locs) {n : Nat} (ha : h.1 a = some (6, n)) {i : Nat} {z : Int32} (hz : z = nI i) (hi : i < n) (hn : n < 2 ^ 31) {v : Nat} (hv : h.1 v = some (3, 0)) (hdg : decode cc pc = .ok (.aastore, 1))
    (kk : ∀ (H : Heap) (locs : List Loc), mw D vwC5 A s.heap (th_g cs (th_ur h a i (some v))) H locs → W p l e R s m args below meth c H locs cells slots Q (F0 m (pc + 1) ls rest)) : W p l e R s m args below meth c H locs cells slots Q (F0 m pc ls (.ref v :: .int z :: .ref a :: rest)) := by
  subst hz
  refine mw_astq hC hM 2 1 (r := (RX1, TX1, 7)) (vs := [.int (h.2.1 v 0), .int (h.2.1 v 1), va_rf (h.2.2 v 2), .int (h.2.1 v 3), .int (h.2.1 v 4), .int (h.2.1 v 5), va_rf (h.2.2 v 6)]) (n := n) (f := h.2.2 a) (th_at ha) rfl (th_at hv) rfl (vp_in_nI hi hn) hdg (fun H1 locs1 hM1 => kk H1 locs1 ?_)
  rw [nI_clamp (Nat.lt_trans hi hn)] at hM1
  rw [← th_upr (k := i) (v := some v) ha]
  exact hM1
theorem na_6 (hC : mx D vwC5 (th_tys cs) th_sx th_nw A p m c cc nL s args TB own) (hM : mw D vwC5 A s.heap (th_g cs h) H locs) (h1 : Cond.classLink own index RX1 ∈ TB) {n : Nat} {z : Int32} (hz : z = nI n) (hn : n ≤ 4096) (hcells : cells + 1 ≤ R.cells) (hslots : slots + n ≤ R.slots) (hdg : decode cc pc = .ok (.anewarray index, 3))
    (kk : ∀ (q : Nat) (H : Heap), h.1 q = none → mw D vwC5 A s.heap (th_g cs (th_un h q (6, n))) H locs → W p l e R s m args below meth c H locs (cells + 1) (slots + n) Q (F0 m (pc + 3) ls (.ref q :: rest))) : W p l e R s m args below meth c H locs cells slots Q (F0 m pc ls (.int z :: rest)) := by
  subst hz
  refine mw_newq hC hM 2 (C := RX1) h1 nw_w1 rfl (nI_pos (by omega)) (nI_clamp (by omega)) (by omega) hcells hslots hdg (fun q H1 hq hM1 => kk q H1 (th_none hq) ?_)
  rw [← th_upn]
  exact hM1
theorem an_7 (hC : mx D vwC5 (th_tys cs) th_sx th_nw A p m c cc nL s args TB own) (hM : mw D vwC5 A s.heap (th_g cs h) H locs) {n : Nat} (ha : h.1 a = some (7, n)) (hdg : decode cc pc = .ok (.arraylength, 1))
    (kk : W p l e R s m args below meth c H locs cells slots Q (F0 m (pc + 1) ls (.int (nI n) :: rest))) : W p l e R s m args below meth c H locs cells slots Q (F0 m pc ls (.ref a :: rest)) :=
  mw_alen hC hM 3 (x := (n, .inl (h.2.1 a))) (th_at ha) rfl rfl hdg kk
theorem al_7 (hC : mx D vwC5 (th_tys cs) th_sx th_nw A p m c cc nL s args TB own) (hM : mw D vwC5 A s.heap (th_g cs h) H locs) {n : Nat} (ha : h.1 a = some (7, n)) {i : Nat} {z : Int32} (hz : z = nI i) (hi : i < n) (hn : n < 2 ^ 31) (hdg : decode cc pc = .ok (.iaload, 1))
    (kk : W p l e R s m args below meth c H locs cells slots Q (F0 m (pc + 1) ls (.int (h.2.1 a i) :: rest))) : W p l e R s m args below meth c H locs cells slots Q (F0 m pc ls (.int z :: .ref a :: rest)) := by
  subst hz
  refine mw_iald hC hM 3 (n := n) (f := h.2.1 a) (th_at ha) rfl (vp_in_nI hi hn) hdg ?_
  rw [nI_clamp (Nat.lt_trans hi hn)]
  exact kk
theorem as_7 (hC : mx D vwC5 (th_tys cs) th_sx th_nw A p m c cc nL s args TB own) (hM : mw D vwC5 A s.heap (th_g cs h) H locs) {n : Nat} (ha : h.1 a = some (7, n)) {i : Nat} {z : Int32} (hz : z = nI i) (hi : i < n) (hn : n < 2 ^ 31) {v : Int32} (hdg : decode cc pc = .ok (.iastore, 1))
    (kk : ∀ (H : Heap) (locs : List Loc), mw D vwC5 A s.heap (th_g cs (th_ui h a i v)) H locs → W p l e R s m args below meth c H locs cells slots Q (F0 m (pc + 1) ls rest)) : W p l e R s m args below meth c H locs cells slots Q (F0 m pc ls (.int v :: .int z :: .ref a :: rest)) := by
  subst hz
  refine mw_iast hC hM 3 (n := n) (f := h.2.1 a) (th_at ha) rfl (vp_in_nI hi hn) hdg (fun H1 locs1 hM1 => kk H1 locs1 ?_)
  rw [nI_clamp (Nat.lt_trans hi hn)] at hM1
  rw [← th_upi (k := i) (v := v) ha]
  exact hM1
theorem na_7 (hC : mx D vwC5 (th_tys cs) th_sx th_nw A p m c cc nL s args TB own) (hM : mw D vwC5 A s.heap (th_g cs h) H locs) (h1 : Cond.arrayClass .int ∈ TB) {n : Nat} {z : Int32} (hz : z = nI n) (hn : n ≤ 4096) (hcells : cells + 1 ≤ R.cells) (hslots : slots + n ≤ R.slots) (hdg : decode cc pc = .ok (.newarray .int, 2))
    (kk : ∀ (q : Nat) (H : Heap), h.1 q = none → mw D vwC5 A s.heap (th_g cs (th_un h q (7, n))) H locs → W p l e R s m args below meth c H locs (cells + 1) (slots + n) Q (F0 m (pc + 2) ls (.ref q :: rest))) : W p l e R s m args below meth c H locs cells slots Q (F0 m pc ls (.int z :: rest)) := by
  subst hz
  refine mw_newa hC hM 3 (ty := .int) (cA := cs 3) (a0 := (n, .inl (fun _ => 0))) rfl h1 (fun C q => nomatch q) rfl rfl (nI_pos (by omega)) (nI_clamp (by omega)) (by simp only [componentBytes]; omega) hcells hslots hdg (fun q H1 hq hM1 => kk q H1 (th_none hq) ?_)
  rw [← th_upn]
  exact hM1
theorem an_8 (hC : mx D vwC5 (th_tys cs) th_sx th_nw A p m c cc nL s args TB own) (hM : mw D vwC5 A s.heap (th_g cs h) H locs) {n : Nat} (ha : h.1 a = some (8, n)) (hdg : decode cc pc = .ok (.arraylength, 1))
    (kk : W p l e R s m args below meth c H locs cells slots Q (F0 m (pc + 1) ls (.int (nI n) :: rest))) : W p l e R s m args below meth c H locs cells slots Q (F0 m pc ls (.ref a :: rest)) :=
  mw_alen hC hM 4 (x := (n, .inl (h.2.1 a))) (th_at ha) rfl rfl hdg kk
theorem al_8 (hC : mx D vwC5 (th_tys cs) th_sx th_nw A p m c cc nL s args TB own) (hM : mw D vwC5 A s.heap (th_g cs h) H locs) {n : Nat} (ha : h.1 a = some (8, n)) {i : Nat} {z : Int32} (hz : z = nI i) (hi : i < n) (hn : n < 2 ^ 31) (hdg : decode cc pc = .ok (.baload, 1))
    (kk : W p l e R s m args below meth c H locs cells slots Q (F0 m (pc + 1) ls (.int (h.2.1 a i) :: rest))) : W p l e R s m args below meth c H locs cells slots Q (F0 m pc ls (.int z :: .ref a :: rest)) := by
  subst hz
  refine mw_zald hC hM 4 (n := n) (f := h.2.1 a) (th_at ha) rfl (vp_in_nI hi hn) hdg ?_
  rw [nI_clamp (Nat.lt_trans hi hn)]
  exact kk
theorem as_8 (hC : mx D vwC5 (th_tys cs) th_sx th_nw A p m c cc nL s args TB own) (hM : mw D vwC5 A s.heap (th_g cs h) H locs) {n : Nat} (ha : h.1 a = some (8, n)) {i : Nat} {z : Int32} (hz : z = nI i) (hi : i < n) (hn : n < 2 ^ 31) {v : Int32} (hzb : v = 0 ∨ v = 1) (hdg : decode cc pc = .ok (.bastore, 1))
    (kk : ∀ (H : Heap) (locs : List Loc), mw D vwC5 A s.heap (th_g cs (th_ui h a i v)) H locs → W p l e R s m args below meth c H locs cells slots Q (F0 m (pc + 1) ls rest)) : W p l e R s m args below meth c H locs cells slots Q (F0 m pc ls (.int v :: .int z :: .ref a :: rest)) := by
  subst hz
  refine mw_zast hC hM 4 (n := n) (f := h.2.1 a) (th_at ha) rfl hzb (vp_in_nI hi hn) hdg (fun H1 locs1 hM1 => kk H1 locs1 ?_)
  rw [nI_clamp (Nat.lt_trans hi hn)] at hM1
  rw [← th_upi (k := i) (v := v) ha]
  exact hM1
theorem na_8 (hC : mx D vwC5 (th_tys cs) th_sx th_nw A p m c cc nL s args TB own) (hM : mw D vwC5 A s.heap (th_g cs h) H locs) (h1 : Cond.arrayClass .boolean ∈ TB) {n : Nat} {z : Int32} (hz : z = nI n) (hn : n ≤ 4096) (hcells : cells + 1 ≤ R.cells) (hslots : slots + n ≤ R.slots) (hdg : decode cc pc = .ok (.newarray .boolean, 2))
    (kk : ∀ (q : Nat) (H : Heap), h.1 q = none → mw D vwC5 A s.heap (th_g cs (th_un h q (8, n))) H locs → W p l e R s m args below meth c H locs (cells + 1) (slots + n) Q (F0 m (pc + 2) ls (.ref q :: rest))) : W p l e R s m args below meth c H locs cells slots Q (F0 m pc ls (.int z :: rest)) := by
  subst hz
  refine mw_newa hC hM 4 (ty := .boolean) (cA := cs 4) (a0 := (n, .inl (fun _ => 0))) rfl h1 (fun C q => nomatch q) rfl rfl (nI_pos (by omega)) (nI_clamp (by omega)) (by simp only [componentBytes]; omega) hcells hslots hdg (fun q H1 hq hM1 => kk q H1 (th_none hq) ?_)
  rw [← th_upn]
  exact hM1
theorem an_9 (hC : mx D vwC5 (th_tys cs) th_sx th_nw A p m c cc nL s args TB own) (hM : mw D vwC5 A s.heap (th_g cs h) H locs) {n : Nat} (ha : h.1 a = some (9, n)) (hdg : decode cc pc = .ok (.arraylength, 1))
    (kk : W p l e R s m args below meth c H locs cells slots Q (F0 m (pc + 1) ls (.int (nI n) :: rest))) : W p l e R s m args below meth c H locs cells slots Q (F0 m pc ls (.ref a :: rest)) :=
  mw_alen hC hM 5 (x := (n, .inr (.inl (fun i => (h.2.1 a i).toInt64)))) (th_at ha) rfl rfl hdg kk
theorem al_9 (hC : mx D vwC5 (th_tys cs) th_sx th_nw A p m c cc nL s args TB own) (hM : mw D vwC5 A s.heap (th_g cs h) H locs) {n : Nat} (ha : h.1 a = some (9, n)) {i : Nat} {z : Int32} (hz : z = nI i) (hi : i < n) (hn : n < 2 ^ 31) (hdg : decode cc pc = .ok (.laload, 1))
    (kk : W p l e R s m args below meth c H locs cells slots Q (F0 m (pc + 1) ls (.long (h.2.1 a i).toInt64 :: rest))) : W p l e R s m args below meth c H locs cells slots Q (F0 m pc ls (.int z :: .ref a :: rest)) := by
  subst hz
  refine mw_lald hC hM 5 (n := n) (f := fun i => (h.2.1 a i).toInt64) (th_at ha) rfl (vp_in_nI hi hn) hdg ?_
  rw [nI_clamp (Nat.lt_trans hi hn)]
  exact kk
theorem as_9 (hC : mx D vwC5 (th_tys cs) th_sx th_nw A p m c cc nL s args TB own) (hM : mw D vwC5 A s.heap (th_g cs h) H locs) {n : Nat} (ha : h.1 a = some (9, n)) {i : Nat} {z : Int32} (hz : z = nI i) (hi : i < n) (hn : n < 2 ^ 31) {v : Int32} (hdg : decode cc pc = .ok (.lastore, 1))
    (kk : ∀ (H : Heap) (locs : List Loc), mw D vwC5 A s.heap (th_g cs (th_ui h a i v)) H locs → W p l e R s m args below meth c H locs cells slots Q (F0 m (pc + 1) ls rest)) : W p l e R s m args below meth c H locs cells slots Q (F0 m pc ls (.long v.toInt64 :: .int z :: .ref a :: rest)) := by
  subst hz
  refine mw_last hC hM 5 (n := n) (f := fun i => (h.2.1 a i).toInt64) (th_at ha) rfl (vp_in_nI hi hn) hdg (fun H1 locs1 hM1 => kk H1 locs1 ?_)
  rw [nI_clamp (Nat.lt_trans hi hn)] at hM1
  rw [← th_upi (k := i) (v := v) ha]
  rw [show vp_updL (fun i => (h.2.1 a i).toInt64) i v.toInt64 = (fun j => (va_up (h.2.1 a) i v j).toInt64) from funext fun j => by by_cases hj : j = i <;> simp [vp_updL, va_up, hj]] at hM1
  exact hM1
theorem na_9 (hC : mx D vwC5 (th_tys cs) th_sx th_nw A p m c cc nL s args TB own) (hM : mw D vwC5 A s.heap (th_g cs h) H locs) (h1 : Cond.arrayClass .long ∈ TB) {n : Nat} {z : Int32} (hz : z = nI n) (hn : n ≤ 4096) (hcells : cells + 1 ≤ R.cells) (hslots : slots + n ≤ R.slots) (hdg : decode cc pc = .ok (.newarray .long, 2))
    (kk : ∀ (q : Nat) (H : Heap), h.1 q = none → mw D vwC5 A s.heap (th_g cs (th_un h q (9, n))) H locs → W p l e R s m args below meth c H locs (cells + 1) (slots + n) Q (F0 m (pc + 2) ls (.ref q :: rest))) : W p l e R s m args below meth c H locs cells slots Q (F0 m pc ls (.int z :: rest)) := by
  subst hz
  refine mw_newa hC hM 5 (ty := .long) (cA := cs 5) (a0 := (n, .inr (.inl (fun _ => (0 : Int32).toInt64)))) rfl h1 (fun C q => nomatch q) rfl rfl (nI_pos (by omega)) (nI_clamp (by omega)) (by simp only [componentBytes]; omega) hcells hslots hdg (fun q H1 hq hM1 => kk q H1 (th_none hq) ?_)
  rw [← th_upn]
  exact hM1
end THR
end
section
/-! contracts over the typed heap -/
def th_P (cs : Nat → ClassId) (P : Option Value → th_S → Prop) : Option Value → mw_G → Prop := fun v g' => ∃ h', g' = th_g cs h' ∧ P v h'
def th_X (cs : Nat → ClassId) (X : String → th_S → Prop) : String → mw_G → Prop := fun E g' => ∃ h', g' = th_g cs h' ∧ X E h'
theorem th_cd : ∀ w ∈ th_nw, mw_cd w = true := by decide +kernel
def th_M (l : Launch) (y : MethodName) (ws : List Cond) (rm : Room) (D : va_G) (cs : Nat → ClassId) (h : th_S) (sz : Nat) (av : List Value) (P : Option Value → th_S → Prop) (X : String → th_S → Prop) : Prop :=
  mw_Met l y ws rm D vwC5 (th_tys cs) th_sx th_nw (th_g cs h) sz av (th_P cs P) (th_X cs X)
def th_MI (l : Launch) (y : MethodName) (ws : List Cond) (rm : Room) (D : va_G) (cs : Nat → ClassId) (h : th_S) (sz : Nat) (av : List Value) (P : Option Value → th_S → Prop) : Prop :=
  mw_MetI l y ws rm D vwC5 (th_tys cs) th_sx th_nw (th_g cs h) sz av (th_P cs P)
abbrev th_C (D : va_G) (cs : Nat → ClassId) (h0 : th_S) (p : Program) (m : MethodId) (c : Code) (cc : ByteArray) (nL : Nat) (s : State) (av : List Value) (own : String) : Prop :=
  mx D vwC5 (th_tys cs) th_sx th_nw (mw_A (th_g cs h0) s.heap.size) p m c cc nL s av.toArray TB own
abbrev th_H (D : va_G) (cs : Nat → ClassId) (h0 : th_S) (s : State) (h : th_S) (H : Heap) (locs : List Loc) : Prop :=
  mw D vwC5 (mw_A (th_g cs h0) s.heap.size) s.heap (th_g cs h) H locs
abbrev th_Q (below : List Frame) (D : va_G) (cs : Nat → ClassId) (h0 : th_S) (s : State) (av : List Value) (P : Option Value → th_S → Prop) (X : String → th_S → Prop) (mc ms : Nat) : State → Prop :=
  vx_MQ below (mw_Qc D vwC5 (th_g cs h0) s.heap.size (th_P cs P)) (mw_Xc D vwC5 (th_g cs h0) s.heap.size (th_X cs X)) av.toArray s mc ms (mw_A (th_g cs h0) s.heap.size)
abbrev th_QI (below : List Frame) (D : va_G) (cs : Nat → ClassId) (h0 : th_S) (s : State) (av : List Value) (P : Option Value → th_S → Prop) (mc ms : Nat) : State → Prop :=
  MQ below (mw_Qc D vwC5 (th_g cs h0) s.heap.size (th_P cs P)) av.toArray s mc ms (mw_A (th_g cs h0) s.heap.size)
theorem th_un_self (h : th_S) (q : Nat) (t : Nat × Nat) : (th_un h q t).1 q = some t := by simp [th_un, va_up]
theorem th_un_k {h : th_S} {q b : Nat} {t t' : Nat × Nat} (hn : h.1 q = none) (hb : h.1 b = some t') : (th_un h q t).1 b = some t' := by
  have hne : b ≠ q := fun e => by rw [e, hn] at hb; cases hb
  simp [th_un, va_up, hne, hb]
theorem th_un_ne {h : th_S} {q b : Nat} {t : Nat × Nat} (hne : b ≠ q) : (th_un h q t).1 b = h.1 b := by simp [th_un, va_up, hne]
theorem th_un_i {h : th_S} {q b j : Nat} {t : Nat × Nat} (hne : b ≠ q) : (th_un h q t).2.1 b j = h.2.1 b j := by simp [th_un, va_up, hne]
theorem th_un_r {h : th_S} {q b j : Nat} {t : Nat × Nat} (hne : b ≠ q) : (th_un h q t).2.2 b j = h.2.2 b j := by simp [th_un, va_up, hne]
theorem th_kne {h : th_S} {a b : Nat} {t t' : Nat × Nat} (ha : h.1 a = some t) (hb : h.1 b = some t') (ht : t ≠ t') : a ≠ b := fun e => ht (by rw [e, hb] at ha; exact (Option.some.inj ha).symm)
theorem th_ui_s (h : th_S) (a k : Nat) (v : Int32) : (th_ui h a k v).2.1 a k = v := by simp [th_ui, va_up]
theorem th_ui_k (h : th_S) (a : Nat) {k j : Nat} (v : Int32) (hj : j ≠ k) : (th_ui h a k v).2.1 a j = h.2.1 a j := by simp [th_ui, va_up, hj]
theorem th_ui_n (h : th_S) {a b : Nat} (k j : Nat) (v : Int32) (hb : b ≠ a) : (th_ui h a k v).2.1 b j = h.2.1 b j := by simp [th_ui, va_up, hb]
theorem th_ur_s (h : th_S) (a k : Nat) (v : Option Nat) : (th_ur h a k v).2.2 a k = v := by simp [th_ur, va_up]
theorem th_ur_k (h : th_S) (a : Nat) {k j : Nat} (v : Option Nat) (hj : j ≠ k) : (th_ur h a k v).2.2 a j = h.2.2 a j := by simp [th_ur, va_up, hj]
theorem th_ur_n (h : th_S) {a b : Nat} (k j : Nat) (v : Option Nat) (hb : b ≠ a) : (th_ur h a k v).2.2 b j = h.2.2 b j := by simp [th_ur, va_up, hb]
theorem tg_67 : ∀ w ∈ (vx_atS RX3 67 "java/lang/IllegalStateException" ["java/lang/RuntimeException", "java/lang/Exception"]).filter goodWord, w ∈ TB := by decide +kernel
theorem tn_67 : ∀ w ∈ (vx_atS RX3 67 "java/lang/IllegalStateException" ["java/lang/RuntimeException", "java/lang/Exception"]).filter (fun w => !goodWord w), w ∈ th_nw := by decide +kernel
theorem to_67 : ∀ w ∈ Cond.classLink RX3 63 "java/lang/IllegalStateException" :: Cond.initialized "java/lang/IllegalStateException" :: vx_atS RX3 67 "java/lang/IllegalStateException" ["java/lang/RuntimeException", "java/lang/Exception"], vx_ot w = true := by decide +kernel
theorem tg_54 : ∀ w ∈ (vx_atS RX3 54 "java/lang/IllegalArgumentException" ["java/lang/RuntimeException", "java/lang/Exception"]).filter goodWord, w ∈ TB := by decide +kernel
theorem tn_54 : ∀ w ∈ (vx_atS RX3 54 "java/lang/IllegalArgumentException" ["java/lang/RuntimeException", "java/lang/Exception"]).filter (fun w => !goodWord w), w ∈ th_nw := by decide +kernel
theorem to_54 : ∀ w ∈ Cond.classLink RX3 50 "java/lang/IllegalArgumentException" :: Cond.initialized "java/lang/IllegalArgumentException" :: vx_atS RX3 54 "java/lang/IllegalArgumentException" ["java/lang/RuntimeException", "java/lang/Exception"], vx_ot w = true := by decide +kernel
theorem tg_191 : ∀ w ∈ (vx_atS RX3 191 "java/lang/IndexOutOfBoundsException" ["java/lang/RuntimeException", "java/lang/Exception"]).filter goodWord, w ∈ TB := by decide +kernel
theorem tn_191 : ∀ w ∈ (vx_atS RX3 191 "java/lang/IndexOutOfBoundsException" ["java/lang/RuntimeException", "java/lang/Exception"]).filter (fun w => !goodWord w), w ∈ th_nw := by decide +kernel
theorem to_191 : ∀ w ∈ Cond.classLink RX3 187 "java/lang/IndexOutOfBoundsException" :: Cond.initialized "java/lang/IndexOutOfBoundsException" :: vx_atS RX3 191 "java/lang/IndexOutOfBoundsException" ["java/lang/RuntimeException", "java/lang/Exception"], vx_ot w = true := by decide +kernel
theorem tg_204 : ∀ w ∈ (vx_atS RX3 204 "java/lang/UnsupportedOperationException" ["java/lang/RuntimeException", "java/lang/Exception"]).filter goodWord, w ∈ TB := by decide +kernel
theorem tn_204 : ∀ w ∈ (vx_atS RX3 204 "java/lang/UnsupportedOperationException" ["java/lang/RuntimeException", "java/lang/Exception"]).filter (fun w => !goodWord w), w ∈ th_nw := by decide +kernel
theorem to_204 : ∀ w ∈ Cond.classLink RX3 200 "java/lang/UnsupportedOperationException" :: Cond.initialized "java/lang/UnsupportedOperationException" :: vx_atS RX3 204 "java/lang/UnsupportedOperationException" ["java/lang/RuntimeException", "java/lang/Exception"], vx_ot w = true := by decide +kernel
theorem tg_119 : ∀ w ∈ (vx_atS RX3 119 "java/lang/ArithmeticException" ["java/lang/RuntimeException", "java/lang/Exception"]).filter goodWord, w ∈ TB := by decide +kernel
theorem tn_119 : ∀ w ∈ (vx_atS RX3 119 "java/lang/ArithmeticException" ["java/lang/RuntimeException", "java/lang/Exception"]).filter (fun w => !goodWord w), w ∈ th_nw := by decide +kernel
theorem to_119 : ∀ w ∈ Cond.classLink RX3 115 "java/lang/ArithmeticException" :: Cond.initialized "java/lang/ArithmeticException" :: vx_atS RX3 119 "java/lang/ArithmeticException" ["java/lang/RuntimeException", "java/lang/Exception"], vx_ot w = true := by decide +kernel
theorem tg_166 : ∀ w ∈ (nx_at RX3 166 "java/util/NoSuchElementException" "java/lang/RuntimeException" ["java/lang/Exception"]).filter goodWord, w ∈ TB := by decide +kernel
theorem tn_166 : ∀ w ∈ (nx_at RX3 166 "java/util/NoSuchElementException" "java/lang/RuntimeException" ["java/lang/Exception"]).filter (fun w => !goodWord w), w ∈ th_nw := by decide +kernel
theorem to_166 : ∀ w ∈ Cond.classLink RX3 162 "java/util/NoSuchElementException" :: Cond.initialized "java/util/NoSuchElementException" :: nx_at RX3 166 "java/util/NoSuchElementException" "java/lang/RuntimeException" ["java/lang/Exception"], vx_ot w = true := by decide +kernel
end
section
/-! the leaves: Place, Transaction, Lockable.words -/
def pl_rem (h : th_S) (a : Nat) : th_S := if h.2.1 a 3 = 0 then th_ur (th_ui (th_ui (th_ui h a 3 1) a 4 (h.2.1 a 0)) a 5 (h.2.1 a 1)) a 6 (h.2.2 a 2) else h
def pl_num (h : th_S) (a : Nat) (v : Int32) : th_S := th_ur (th_ui (th_ui (pl_rem h a) a 0 0) a 1 v) a 2 none
def pl_ref (h : th_S) (a : Nat) (r : Option Nat) : th_S := th_ur (th_ui (th_ui (pl_rem h a) a 0 1) a 1 0) a 2 r
def pl_back (h : th_S) (a : Nat) : th_S := if h.2.1 a 3 = 0 then h else th_ur (th_ui (th_ui h a 0 (h.2.1 a 4)) a 1 (h.2.1 a 5)) a 2 (h.2.2 a 6)
def pl_forget (h : th_S) (a : Nat) : th_S := th_ur (th_ui h a 3 0) a 6 none
theorem pl_rem_k (h : th_S) (a : Nat) : (pl_rem h a).1 = h.1 := by unfold pl_rem; split <;> rfl

-- StableHeap$Place.<init>
set_option maxHeartbeats 4000000 in
set_option maxRecDepth 100000 in
theorem c_X1_init (l : Launch) (hl0 : l.stackTraces = false) (D : va_G) (cs : Nat → ClassId) (h : th_S) (sz : Nat) (a : Nat) (ha : h.1 a = some (3, 0)) : th_MI l yX1_init wsX1_init { frames := 1, cells := 0, slots := 0, locals := 16 } D cs h sz [.ref a] (fun v h' => v = none ∧ h = h') := by
  refine mw_ofWI (cc := cX1_init) (maxL := 1) (ret := none) (by decide) rfl (fun w h => List.mem_cons_of_mem _ h) th_cd (Nat.le_of_ble_eq_true rfl) ?_
  intro p e s m below meth c hsz hC hr hlk hnm hM ls hl
  have hC : th_C D cs h p m c cX1_init 1 s [.ref a] RX1 := hC
  have hx := hC.1.1
  have hb := hC.1.2.1
  have hl : lv_has ls 1 [(0, .ref a)] := hl
  refine lv_aload_n hx hb dX1_init_0 rfl (lv_at hl 0 rfl) ?_
  refine W.objInit hx hb hC.1.2.2.2.1 (hC.1.2.2.2.2 (.methodLink RX1 1 objectInit) mb_68) (hC.1.2.2.2.2 (.instanceMethod objectInit) mb_56) (hC.1.2.2.2.2 (.code objectInit ⟨#[0xb1]⟩ 1 none) mb_57) rfl (by rw [hC.1.2.2.1]; exact hl.1) rfl dX1_init_1 (Nat.le_of_ble_eq_true rfl) (Nat.le_of_ble_eq_true rfl) ?_
  refine W.eq (g2 := F0 m 4 ls []) rfl ?_
  refine mw_vretI hC hM hr hlk dX1_init_4 (Nat.le_of_ble_eq_true rfl) (Nat.le_of_ble_eq_true rfl) ⟨_, rfl, ?_⟩
  exact ⟨rfl, rfl⟩

-- StableHeap$Transaction.<init>
set_option maxHeartbeats 4000000 in
set_option maxRecDepth 100000 in
theorem c_X2_init (l : Launch) (hl0 : l.stackTraces = false) (D : va_G) (cs : Nat → ClassId) (h : th_S) (sz : Nat) (a : Nat) (ha : h.1 a = some (1, 0)) : th_MI l yX2_init wsX2_init { frames := 1, cells := 0, slots := 0, locals := 16 } D cs h sz [.ref a] (fun v h' => v = none ∧ h = h') := by
  refine mw_ofWI (cc := cX2_init) (maxL := 1) (ret := none) (by decide) rfl (fun w h => List.mem_cons_of_mem _ h) th_cd (Nat.le_of_ble_eq_true rfl) ?_
  intro p e s m below meth c hsz hC hr hlk hnm hM ls hl
  have hC : th_C D cs h p m c cX2_init 1 s [.ref a] RX2 := hC
  have hx := hC.1.1
  have hb := hC.1.2.1
  have hl : lv_has ls 1 [(0, .ref a)] := hl
  refine lv_aload_n hx hb dX2_init_0 rfl (lv_at hl 0 rfl) ?_
  refine W.objInit hx hb hC.1.2.2.2.1 (hC.1.2.2.2.2 (.methodLink RX2 1 objectInit) mb_115) (hC.1.2.2.2.2 (.instanceMethod objectInit) mb_56) (hC.1.2.2.2.2 (.code objectInit ⟨#[0xb1]⟩ 1 none) mb_57) rfl (by rw [hC.1.2.2.1]; exact hl.1) rfl dX2_init_1 (Nat.le_of_ble_eq_true rfl) (Nat.le_of_ble_eq_true rfl) ?_
  refine W.eq (g2 := F0 m 4 ls []) rfl ?_
  refine mw_vretI hC hM hr hlk dX2_init_4 (Nat.le_of_ble_eq_true rfl) (Nat.le_of_ble_eq_true rfl) ⟨_, rfl, ?_⟩
  exact ⟨rfl, rfl⟩

-- StableHeap$Transaction.isActive
set_option maxHeartbeats 4000000 in
set_option maxRecDepth 100000 in
theorem c_X2_isActive (l : Launch) (hl0 : l.stackTraces = false) (D : va_G) (cs : Nat → ClassId) (h : th_S) (sz : Nat) (a : Nat) (ha : h.1 a = some (1, 0)) : th_M l yX2_isActive wsX2_isActive { frames := 0, cells := 0, slots := 0, locals := 0 } D cs h sz [.ref a] (fun v h' => h = h' ∧ v = some (.int (if h.2.1 a 0 = 0 then 0 else 1))) (fun E h' => False) := by
  refine mw_ofW (cc := cX2_isActive) (maxL := 1) (ret := (some .boolean)) (by decide) rfl (fun w h => List.mem_cons_of_mem _ h) th_cd (Nat.le_of_ble_eq_true rfl) ?_
  intro p e s m below meth c hsz hC hr hlk hnm htab hM ls hl
  have hC : th_C D cs h p m c cX2_isActive 1 s [.ref a] RX2 := hC
  have hx := hC.1.1
  have hb := hC.1.2.1
  have hl : lv_has ls 1 [(0, .ref a)] := hl
  refine lv_aload_n hx hb dX2_isActive_0 rfl (lv_at hl 0 rfl) ?_
  refine gi_1_0 (index := 7) hC hM ha mb_116 dX2_isActive_1 ?_
  refine lv_if_eq (tgt := 11) hx hb dX2_isActive_4 (by decide) (fun c4 => ?_) (fun c4 => ?_)
  · refine lv_iconst (v := 0) hx hb dX2_isActive_11 (by decide) ?_
    refine mw_zret hC hM hr hlk (rfl) dX2_isActive_12 (Nat.le_of_ble_eq_true rfl) (Nat.le_of_ble_eq_true rfl) ⟨_, rfl, ?_⟩
    exact ⟨rfl, by simp [c4]⟩
  · refine lv_iconst (v := 1) hx hb dX2_isActive_7 (by decide) ?_
    refine lv_goto (tgt := 12) hx hb dX2_isActive_8 (by decide) ?_
    refine mw_zret hC hM hr hlk (rfl) dX2_isActive_12 (Nat.le_of_ble_eq_true rfl) (Nat.le_of_ble_eq_true rfl) ⟨_, rfl, ?_⟩
    exact ⟨rfl, by simp [c4]⟩

-- StableHeap$Lockable.words
set_option maxHeartbeats 4000000 in
set_option maxRecDepth 100000 in
theorem c_X0_words (l : Launch) (hl0 : l.stackTraces = false) (D : va_G) (cs : Nat → ClassId) (h : th_S) (sz : Nat) (a pa n : Nat) (ha : h.1 a = some (2, 0)) (hpa : h.2.2 a 1 = some pa) (hn : h.1 pa = some (6, n)) : th_M l yX0_words wsX0_words { frames := 0, cells := 0, slots := 0, locals := 0 } D cs h sz [.ref a] (fun v h' => h = h' ∧ v = some (.int (1 + nI n))) (fun E h' => False) := by
  refine mw_ofW (cc := cX0_words) (maxL := 1) (ret := (some .int)) (by decide) rfl (fun w h => List.mem_cons_of_mem _ h) th_cd (Nat.le_of_ble_eq_true rfl) ?_
  intro p e s m below meth c hsz hC hr hlk hnm htab hM ls hl
  have hC : th_C D cs h p m c cX0_words 1 s [.ref a] RX0 := hC
  have hx := hC.1.1
  have hb := hC.1.2.1
  have hl : lv_has ls 1 [(0, .ref a)] := hl
  refine lv_iconst (v := 1) hx hb dX0_words_0 (by decide) ?_
  refine lv_aload_n hx hb dX0_words_1 rfl (lv_at hl 0 rfl) ?_
  refine gr_2_1 (index := 15) hC hM ha mb_97 dX0_words_2 hpa ?_
  refine an_6 hC hM hn dX0_words_5 ?_
  refine lv_iadd hx hb dX0_words_6 ?_
  refine mw_iret hC hM hr hlk dX0_words_7 (Nat.le_of_ble_eq_true rfl) (Nat.le_of_ble_eq_true rfl) ⟨_, rfl, ?_⟩
  exact ⟨rfl, rfl⟩

-- StableHeap$Place.rememberFormer
set_option maxHeartbeats 4000000 in
set_option maxRecDepth 100000 in
theorem c_X1_rememberFormer (l : Launch) (hl0 : l.stackTraces = false) (D : va_G) (cs : Nat → ClassId) (h : th_S) (sz : Nat) (a : Nat) (ha : h.1 a = some (3, 0)) (hz0 : h.2.1 a 0 = 0 ∨ h.2.1 a 0 = 1) : th_M l yX1_rememberFormer wsX1_rememberFormer { frames := 0, cells := 0, slots := 0, locals := 0 } D cs h sz [.ref a] (fun v h' => v = none ∧ h' = pl_rem h a) (fun E h' => False) := by
  refine mw_ofW (cc := cX1_rememberFormer) (maxL := 1) (ret := none) (by decide) rfl (fun w h => List.mem_cons_of_mem _ h) th_cd (Nat.le_of_ble_eq_true rfl) ?_
  intro p e s m below meth c hsz hC hr hlk hnm htab hM ls hl
  have hC : th_C D cs h p m c cX1_rememberFormer 1 s [.ref a] RX1 := hC
  have hx := hC.1.1
  have hb := hC.1.2.1
  have hl : lv_has ls 1 [(0, .ref a)] := hl
  refine lv_aload_n hx hb dX1_rememberFormer_0 rfl (lv_at hl 0 rfl) ?_
  refine gi_3_3 (index := 24) hC hM ha mb_75 dX1_rememberFormer_1 ?_
  refine lv_if_ne (tgt := 36) hx hb dX1_rememberFormer_4 (by decide) (fun c4 => ?_) (fun c4 => ?_)
  · refine mw_vret hC hM hr hlk dX1_rememberFormer_36 (Nat.le_of_ble_eq_true rfl) (Nat.le_of_ble_eq_true rfl) ⟨_, rfl, ?_⟩
    first
      | exact ⟨rfl, by simp [pl_rem, c4, th_ui, th_ur, va_up]⟩
      | exact ⟨rfl, by simp [pl_rem, c4]⟩
  · refine lv_aload_n hx hb dX1_rememberFormer_7 rfl (lv_at hl 0 rfl) ?_
    refine lv_iconst (v := 1) hx hb dX1_rememberFormer_8 (by decide) ?_
    refine pu_3_3 (index := 24) (v := 1) hC hM ha mb_75 (by first | exact Or.inl rfl | exact Or.inr rfl) dX1_rememberFormer_9 (fun H locs hM => ?_)
    refine lv_aload_n hx hb dX1_rememberFormer_12 rfl (lv_at hl 0 rfl) ?_
    refine lv_aload_n hx hb dX1_rememberFormer_13 rfl (lv_at hl 0 rfl) ?_
    refine gi_3_0 (index := 12) hC hM ha mb_69 dX1_rememberFormer_14 ?_
    refine pu_3_4 (index := 27) (v := (th_ui h a 3 1).2.1 a 0) hC hM ha mb_76 (by simpa [th_ui, va_up] using hz0) dX1_rememberFormer_17 (fun H locs hM => ?_)
    refine lv_aload_n hx hb dX1_rememberFormer_20 rfl (lv_at hl 0 rfl) ?_
    refine lv_aload_n hx hb dX1_rememberFormer_21 rfl (lv_at hl 0 rfl) ?_
    refine gi_3_1 (index := 16) hC hM ha mb_71 dX1_rememberFormer_22 ?_
    refine pu_3_5 (index := 30) (v := (th_ui (th_ui h a 3 1) a 4 ((th_ui h a 3 1).2.1 a 0)).2.1 a 1) hC hM ha mb_77 dX1_rememberFormer_25 (fun H locs hM => ?_)
    refine lv_aload_n hx hb dX1_rememberFormer_28 rfl (lv_at hl 0 rfl) ?_
    refine lv_aload_n hx hb dX1_rememberFormer_29 rfl (lv_at hl 0 rfl) ?_
    refine gr_3_2 (index := 20) hC hM ha mb_73 dX1_rememberFormer_30 rfl ?_
    refine pu_3_6 (index := 33) (v := (th_ui (th_ui (th_ui h a 3 1) a 4 ((th_ui h a 3 1).2.1 a 0)) a 5 ((th_ui (th_ui h a 3 1) a 4 ((th_ui h a 3 1).2.1 a 0)).2.1 a 1)).2.2 a 2) hC hM ha mb_78 dX1_rememberFormer_33 (fun H locs hM => ?_)
    refine mw_vret hC hM hr hlk dX1_rememberFormer_36 (Nat.le_of_ble_eq_true rfl) (Nat.le_of_ble_eq_true rfl) ⟨_, rfl, ?_⟩
    first
      | exact ⟨rfl, by simp [pl_rem, c4, th_ui, th_ur, va_up]⟩
      | exact ⟨rfl, by simp [pl_rem, c4]⟩

-- StableHeap$Place.putNumber
set_option maxHeartbeats 4000000 in
set_option maxRecDepth 100000 in
theorem c_X1_putNumber (l : Launch) (hl0 : l.stackTraces = false) (D : va_G) (cs : Nat → ClassId) (h : th_S) (sz : Nat) (a : Nat) (ha : h.1 a = some (3, 0)) (hz0 : h.2.1 a 0 = 0 ∨ h.2.1 a 0 = 1) (k : Int32) : th_M l yX1_putNumber wsX1_putNumber { frames := 1, cells := 0, slots := 0, locals := 20 } D cs h sz [.ref a, .int k] (fun v h' => v = none ∧ h' = pl_num h a k) (fun E h' => False) := by
  refine mw_ofW (cc := cX1_putNumber) (maxL := 2) (ret := none) (by decide) rfl (fun w h => List.mem_cons_of_mem _ h) th_cd (Nat.le_of_ble_eq_true rfl) ?_
  intro p e s m below meth c hsz hC hr hlk hnm htab hM ls hl
  have hC : th_C D cs h p m c cX1_putNumber 2 s [.ref a, .int k] RX1 := hC
  have hx := hC.1.1
  have hb := hC.1.2.1
  have hl : lv_has ls 2 [(0, .ref a), (1, .int k)] := hl
  refine lv_aload_n hx hb dX1_putNumber_0 rfl (lv_at hl 0 rfl) ?_
  refine mw_callV (As := []) (rest := []) (n := 0) (C := RX1) (T := TX1) (N := 7) (ci := 1) hC hM (c_X1_rememberFormer l hl0 D cs h s.heap.size a ha hz0) (cwV 0 hC.1.2.2.2.2 (tb_V mb_377 mb_378 mb_12 mb_38 mb_379) rfl rfl rfl (by decide +kernel) ⟨Nat.le_of_ble_eq_true rfl, Nat.le_of_ble_eq_true rfl⟩) (th_at (h := h) ha) rfl rfl rfl hl.1 (Nat.le_of_ble_eq_true rfl) dX1_putNumber_1 ⟨Nat.le_of_ble_eq_true rfl, Nat.le_of_ble_eq_true rfl⟩ (fun E ce q9 g9 H locs hp9 hM hce hcv hcl => ?_) (fun v9 g9 H locs hp9 hM => ?_)
  · exact (hp9.elim fun _ h9 => h9.2.elim)
  obtain ⟨h1, rfl, hp9⟩ := hp9
  obtain ⟨rfl, rfl⟩ := hp9
  refine W.eq (g2 := F0 m 4 ls []) rfl ?_
  refine lv_aload_n hx hb dX1_putNumber_4 rfl (lv_at hl 0 rfl) ?_
  refine lv_iconst (v := 0) hx hb dX1_putNumber_5 (by decide) ?_
  refine pu_3_0 (index := 12) (v := 0) hC hM (show (pl_rem h a).1 a = some (3, 0) by rw [pl_rem_k]; exact ha) mb_69 (by first | exact Or.inl rfl | exact Or.inr rfl) dX1_putNumber_6 (fun H locs hM => ?_)
  refine lv_aload_n hx hb dX1_putNumber_9 rfl (lv_at hl 0 rfl) ?_
  refine lv_iload_n hx hb dX1_putNumber_10 rfl (lv_at hl 1 rfl) ?_
  refine pu_3_1 (index := 16) (v := k) hC hM (show (pl_rem h a).1 a = some (3, 0) by rw [pl_rem_k]; exact ha) mb_71 dX1_putNumber_11 (fun H locs hM => ?_)
  refine lv_aload_n hx hb dX1_putNumber_14 rfl (lv_at hl 0 rfl) ?_
  refine lv_null hx hb dX1_putNumber_15 ?_
  refine pu_3_2 (index := 20) (v := none) hC hM (show (pl_rem h a).1 a = some (3, 0) by rw [pl_rem_k]; exact ha) mb_73 dX1_putNumber_16 (fun H locs hM => ?_)
  refine mw_vret hC hM hr hlk dX1_putNumber_19 (Nat.le_of_ble_eq_true rfl) (Nat.le_of_ble_eq_true rfl) ⟨_, rfl, ?_⟩
  exact ⟨rfl, rfl⟩

-- StableHeap$Place.putReference
set_option maxHeartbeats 4000000 in
set_option maxRecDepth 100000 in
theorem c_X1_putReference (l : Launch) (hl0 : l.stackTraces = false) (D : va_G) (cs : Nat → ClassId) (h : th_S) (sz : Nat) (a : Nat) (ha : h.1 a = some (3, 0)) (hz0 : h.2.1 a 0 = 0 ∨ h.2.1 a 0 = 1) (r : Option Nat) : th_M l yX1_putReference wsX1_putReference { frames := 1, cells := 0, slots := 0, locals := 20 } D cs h sz [.ref a, va_rf r] (fun v h' => v = none ∧ h' = pl_ref h a r) (fun E h' => False) := by
  rcases r with _ | b
  · skip
    refine mw_ofW (cc := cX1_putReference) (maxL := 2) (ret := none) (by decide) rfl (fun w h => List.mem_cons_of_mem _ h) th_cd (Nat.le_of_ble_eq_true rfl) ?_
    intro p e s m below meth c hsz hC hr hlk hnm htab hM ls hl
    have hC : th_C D cs h p m c cX1_putReference 2 s [.ref a, .null] RX1 := hC
    have hx := hC.1.1
    have hb := hC.1.2.1
    have hl : lv_has ls 2 [(0, .ref a), (1, .null)] := hl
    refine lv_aload_n hx hb dX1_putReference_0 rfl (lv_at hl 0 rfl) ?_
    refine mw_callV (As := []) (rest := []) (n := 0) (C := RX1) (T := TX1) (N := 7) (ci := 1) hC hM (c_X1_rememberFormer l hl0 D cs h s.heap.size a ha hz0) (cwV 0 hC.1.2.2.2.2 (tb_V mb_377 mb_378 mb_12 mb_38 mb_379) rfl rfl rfl (by decide +kernel) ⟨Nat.le_of_ble_eq_true rfl, Nat.le_of_ble_eq_true rfl⟩) (th_at (h := h) ha) rfl rfl rfl hl.1 (Nat.le_of_ble_eq_true rfl) dX1_putReference_1 ⟨Nat.le_of_ble_eq_true rfl, Nat.le_of_ble_eq_true rfl⟩ (fun E ce q9 g9 H locs hp9 hM hce hcv hcl => ?_) (fun v9 g9 H locs hp9 hM => ?_)
    · exact (hp9.elim fun _ h9 => h9.2.elim)
    obtain ⟨h1, rfl, hp9⟩ := hp9
    obtain ⟨rfl, rfl⟩ := hp9
    refine W.eq (g2 := F0 m 4 ls []) rfl ?_
    refine lv_aload_n hx hb dX1_putReference_4 rfl (lv_at hl 0 rfl) ?_
    refine lv_iconst (v := 1) hx hb dX1_putReference_5 (by decide) ?_
    refine pu_3_0 (index := 12) (v := 1) hC hM (show (pl_rem h a).1 a = some (3, 0) by rw [pl_rem_k]; exact ha) mb_69 (by first | exact Or.inl rfl | exact Or.inr rfl) dX1_putReference_6 (fun H locs hM => ?_)
    refine lv_aload_n hx hb dX1_putReference_9 rfl (lv_at hl 0 rfl) ?_
    refine lv_iconst (v := 0) hx hb dX1_putReference_10 (by decide) ?_
    refine pu_3_1 (index := 16) (v := 0) hC hM (show (pl_rem h a).1 a = some (3, 0) by rw [pl_rem_k]; exact ha) mb_71 dX1_putReference_11 (fun H locs hM => ?_)
    refine lv_aload_n hx hb dX1_putReference_14 rfl (lv_at hl 0 rfl) ?_
    refine lv_aload_nN hx hb dX1_putReference_15 rfl (lv_at hl 1 rfl) ?_
    refine pu_3_2 (index := 20) (v := none) hC hM (show (pl_rem h a).1 a = some (3, 0) by rw [pl_rem_k]; exact ha) mb_73 dX1_putReference_16 (fun H locs hM => ?_)
    refine mw_vret hC hM hr hlk dX1_putReference_19 (Nat.le_of_ble_eq_true rfl) (Nat.le_of_ble_eq_true rfl) ⟨_, rfl, ?_⟩
    exact ⟨rfl, rfl⟩
  · skip
    refine mw_ofW (cc := cX1_putReference) (maxL := 2) (ret := none) (by decide) rfl (fun w h => List.mem_cons_of_mem _ h) th_cd (Nat.le_of_ble_eq_true rfl) ?_
    intro p e s m below meth c hsz hC hr hlk hnm htab hM ls hl
    have hC : th_C D cs h p m c cX1_putReference 2 s [.ref a, .ref b] RX1 := hC
    have hx := hC.1.1
    have hb := hC.1.2.1
    have hl : lv_has ls 2 [(0, .ref a), (1, .ref b)] := hl
    refine lv_aload_n hx hb dX1_putReference_0 rfl (lv_at hl 0 rfl) ?_
    refine mw_callV (As := []) (rest := []) (n := 0) (C := RX1) (T := TX1) (N := 7) (ci := 1) hC hM (c_X1_rememberFormer l hl0 D cs h s.heap.size a ha hz0) (cwV 0 hC.1.2.2.2.2 (tb_V mb_377 mb_378 mb_12 mb_38 mb_379) rfl rfl rfl (by decide +kernel) ⟨Nat.le_of_ble_eq_true rfl, Nat.le_of_ble_eq_true rfl⟩) (th_at (h := h) ha) rfl rfl rfl hl.1 (Nat.le_of_ble_eq_true rfl) dX1_putReference_1 ⟨Nat.le_of_ble_eq_true rfl, Nat.le_of_ble_eq_true rfl⟩ (fun E ce q9 g9 H locs hp9 hM hce hcv hcl => ?_) (fun v9 g9 H locs hp9 hM => ?_)
    · exact (hp9.elim fun _ h9 => h9.2.elim)
    obtain ⟨h1, rfl, hp9⟩ := hp9
    obtain ⟨rfl, rfl⟩ := hp9
    refine W.eq (g2 := F0 m 4 ls []) rfl ?_
    refine lv_aload_n hx hb dX1_putReference_4 rfl (lv_at hl 0 rfl) ?_
    refine lv_iconst (v := 1) hx hb dX1_putReference_5 (by decide) ?_
    refine pu_3_0 (index := 12) (v := 1) hC hM (show (pl_rem h a).1 a = some (3, 0) by rw [pl_rem_k]; exact ha) mb_69 (by first | exact Or.inl rfl | exact Or.inr rfl) dX1_putReference_6 (fun H locs hM => ?_)
    refine lv_aload_n hx hb dX1_putReference_9 rfl (lv_at hl 0 rfl) ?_
    refine lv_iconst (v := 0) hx hb dX1_putReference_10 (by decide) ?_
    refine pu_3_1 (index := 16) (v := 0) hC hM (show (pl_rem h a).1 a = some (3, 0) by rw [pl_rem_k]; exact ha) mb_71 dX1_putReference_11 (fun H locs hM => ?_)
    refine lv_aload_n hx hb dX1_putReference_14 rfl (lv_at hl 0 rfl) ?_
    refine lv_aload_n hx hb dX1_putReference_15 rfl (lv_at hl 1 rfl) ?_
    refine pu_3_2 (index := 20) (v := some b) hC hM (show (pl_rem h a).1 a = some (3, 0) by rw [pl_rem_k]; exact ha) mb_73 dX1_putReference_16 (fun H locs hM => ?_)
    refine mw_vret hC hM hr hlk dX1_putReference_19 (Nat.le_of_ble_eq_true rfl) (Nat.le_of_ble_eq_true rfl) ⟨_, rfl, ?_⟩
    exact ⟨rfl, rfl⟩

-- StableHeap$Place.takeBack
set_option maxHeartbeats 4000000 in
set_option maxRecDepth 100000 in
theorem c_X1_takeBack (l : Launch) (hl0 : l.stackTraces = false) (D : va_G) (cs : Nat → ClassId) (h : th_S) (sz : Nat) (a : Nat) (ha : h.1 a = some (3, 0)) (hz4 : h.2.1 a 4 = 0 ∨ h.2.1 a 4 = 1) : th_M l yX1_takeBack wsX1_takeBack { frames := 0, cells := 0, slots := 0, locals := 0 } D cs h sz [.ref a] (fun v h' => v = none ∧ h' = pl_back h a) (fun E h' => False) := by
  refine mw_ofW (cc := cX1_takeBack) (maxL := 1) (ret := none) (by decide) rfl (fun w h => List.mem_cons_of_mem _ h) th_cd (Nat.le_of_ble_eq_true rfl) ?_
  intro p e s m below meth c hsz hC hr hlk hnm htab hM ls hl
  have hC : th_C D cs h p m c cX1_takeBack 1 s [.ref a] RX1 := hC
  have hx := hC.1.1
  have hb := hC.1.2.1
  have hl : lv_has ls 1 [(0, .ref a)] := hl
  refine lv_aload_n hx hb dX1_takeBack_0 rfl (lv_at hl 0 rfl) ?_
  refine gi_3_3 (index := 24) hC hM ha mb_75 dX1_takeBack_1 ?_
  refine lv_if_eq (tgt := 31) hx hb dX1_takeBack_4 (by decide) (fun c4 => ?_) (fun c4 => ?_)
  · refine mw_vret hC hM hr hlk dX1_takeBack_31 (Nat.le_of_ble_eq_true rfl) (Nat.le_of_ble_eq_true rfl) ⟨_, rfl, ?_⟩
    first
      | exact ⟨rfl, by simp [pl_back, c4, th_ui, th_ur, va_up]⟩
      | exact ⟨rfl, by simp [pl_back, c4]⟩
  · refine lv_aload_n hx hb dX1_takeBack_7 rfl (lv_at hl 0 rfl) ?_
    refine lv_aload_n hx hb dX1_takeBack_8 rfl (lv_at hl 0 rfl) ?_
    refine gi_3_4 (index := 27) hC hM ha mb_76 dX1_takeBack_9 ?_
    refine pu_3_0 (index := 12) (v := h.2.1 a 4) hC hM ha mb_69 (hz4) dX1_takeBack_12 (fun H locs hM => ?_)
    refine lv_aload_n hx hb dX1_takeBack_15 rfl (lv_at hl 0 rfl) ?_
    refine lv_aload_n hx hb dX1_takeBack_16 rfl (lv_at hl 0 rfl) ?_
    refine gi_3_5 (index := 30) hC hM ha mb_77 dX1_takeBack_17 ?_
    refine pu_3_1 (index := 16) (v := (th_ui h a 0 (h.2.1 a 4)).2.1 a 5) hC hM ha mb_71 dX1_takeBack_20 (fun H locs hM => ?_)
    refine lv_aload_n hx hb dX1_takeBack_23 rfl (lv_at hl 0 rfl) ?_
    refine lv_aload_n hx hb dX1_takeBack_24 rfl (lv_at hl 0 rfl) ?_
    refine gr_3_6 (index := 33) hC hM ha mb_78 dX1_takeBack_25 rfl ?_
    refine pu_3_2 (index := 20) (v := (th_ui (th_ui h a 0 (h.2.1 a 4)) a 1 ((th_ui h a 0 (h.2.1 a 4)).2.1 a 5)).2.2 a 6) hC hM ha mb_73 dX1_takeBack_28 (fun H locs hM => ?_)
    refine mw_vret hC hM hr hlk dX1_takeBack_31 (Nat.le_of_ble_eq_true rfl) (Nat.le_of_ble_eq_true rfl) ⟨_, rfl, ?_⟩
    first
      | exact ⟨rfl, by simp [pl_back, c4, th_ui, th_ur, va_up]⟩
      | exact ⟨rfl, by simp [pl_back, c4]⟩

-- StableHeap$Place.forgetFormer
set_option maxHeartbeats 4000000 in
set_option maxRecDepth 100000 in
theorem c_X1_forgetFormer (l : Launch) (hl0 : l.stackTraces = false) (D : va_G) (cs : Nat → ClassId) (h : th_S) (sz : Nat) (a : Nat) (ha : h.1 a = some (3, 0)) : th_M l yX1_forgetFormer wsX1_forgetFormer { frames := 0, cells := 0, slots := 0, locals := 0 } D cs h sz [.ref a] (fun v h' => v = none ∧ h' = pl_forget h a) (fun E h' => False) := by
  refine mw_ofW (cc := cX1_forgetFormer) (maxL := 1) (ret := none) (by decide) rfl (fun w h => List.mem_cons_of_mem _ h) th_cd (Nat.le_of_ble_eq_true rfl) ?_
  intro p e s m below meth c hsz hC hr hlk hnm htab hM ls hl
  have hC : th_C D cs h p m c cX1_forgetFormer 1 s [.ref a] RX1 := hC
  have hx := hC.1.1
  have hb := hC.1.2.1
  have hl : lv_has ls 1 [(0, .ref a)] := hl
  refine lv_aload_n hx hb dX1_forgetFormer_0 rfl (lv_at hl 0 rfl) ?_
  refine lv_iconst (v := 0) hx hb dX1_forgetFormer_1 (by decide) ?_
  refine pu_3_3 (index := 24) (v := 0) hC hM ha mb_75 (by first | exact Or.inl rfl | exact Or.inr rfl) dX1_forgetFormer_2 (fun H locs hM => ?_)
  refine lv_aload_n hx hb dX1_forgetFormer_5 rfl (lv_at hl 0 rfl) ?_
  refine lv_null hx hb dX1_forgetFormer_6 ?_
  refine pu_3_6 (index := 33) (v := none) hC hM ha mb_78 dX1_forgetFormer_7 (fun H locs hM => ?_)
  refine mw_vret hC hM hr hlk dX1_forgetFormer_10 (Nat.le_of_ble_eq_true rfl) (Nat.le_of_ble_eq_true rfl) ⟨_, rfl, ?_⟩
  exact ⟨rfl, rfl⟩
end
section
/-! what a StableHeap is: its cells by kinds -/
def sh_K (x aR aO aH aT : Nat) (rt ta : Nat → Nat) (h : th_S) : Prop :=
  (h.1 x = some (0, 0) ∧ h.2.2 x 0 = some aR ∧ h.2.2 x 1 = some aO ∧ h.2.2 x 2 = some aH ∧ h.2.2 x 3 = some aT) ∧
  (h.1 aR = some (4, 4) ∧ h.1 aO = some (4, 80) ∧ h.1 aH = some (4, 80) ∧ h.1 aT = some (5, 3)) ∧
  (aR ≠ aO ∧ aR ≠ aH ∧ aO ≠ aH) ∧
  (∀ i, i < 4 → h.2.2 aR i = some (rt i) ∧ h.1 (rt i) = some (2, 0)) ∧
  (∀ i, i < 3 → h.2.2 aT i = some (ta i) ∧ h.1 (ta i) = some (1, 0)) ∧
  (∀ i j, i < 3 → j < 3 → ta i = ta j → i = j) ∧
  (∀ a, h.1 a = some (2, 0) → ∃ pa n, h.2.2 a 1 = some pa ∧ h.1 pa = some (6, n) ∧ n ≤ 4) ∧
  (∀ pa n, h.1 pa = some (6, n) → ∀ j, j < n → ∃ q, h.2.2 pa j = some q ∧ h.1 q = some (3, 0)) ∧
  (∀ i, i < 4 → ∃ pa, h.2.2 (rt i) 1 = some pa ∧ h.1 pa = some (6, 1)) ∧
  (∀ q, h.1 q = some (3, 0) → (h.2.1 q 0 = 0 ∨ h.2.1 q 0 = 1) ∧ (h.2.1 q 3 = 0 ∨ h.2.1 q 3 = 1) ∧ (h.2.1 q 4 = 0 ∨ h.2.1 q 4 = 1) ∧ (∀ b, h.2.2 q 2 = some b → h.1 b = some (2, 0)) ∧ (∀ b, h.2.2 q 6 = some b → h.1 b = some (2, 0)))
/-- the n objects that are there -/
def sh_O (x aO n : Nat) (h : th_S) : Prop := n ≤ 80 ∧ h.2.1 x 4 = nI n ∧ ∀ i, i < n → ∃ a, h.2.2 aO i = some a ∧ h.1 a = some (2, 0)
section SHK
variable {x aR aO aH aT : Nat} {rt ta : Nat → Nat} {h : th_S}
theorem sh_K.kx (k : sh_K x aR aO aH aT rt ta h) : h.1 x = some (0, 0) := k.1.1
theorem sh_K.xR (k : sh_K x aR aO aH aT rt ta h) : h.2.2 x 0 = some aR := k.1.2.1
theorem sh_K.xO (k : sh_K x aR aO aH aT rt ta h) : h.2.2 x 1 = some aO := k.1.2.2.1
theorem sh_K.xH (k : sh_K x aR aO aH aT rt ta h) : h.2.2 x 2 = some aH := k.1.2.2.2.1
theorem sh_K.xT (k : sh_K x aR aO aH aT rt ta h) : h.2.2 x 3 = some aT := k.1.2.2.2.2
theorem sh_K.kR (k : sh_K x aR aO aH aT rt ta h) : h.1 aR = some (4, 4) := k.2.1.1
theorem sh_K.kO (k : sh_K x aR aO aH aT rt ta h) : h.1 aO = some (4, 80) := k.2.1.2.1
theorem sh_K.kH (k : sh_K x aR aO aH aT rt ta h) : h.1 aH = some (4, 80) := k.2.1.2.2.1
theorem sh_K.kT (k : sh_K x aR aO aH aT rt ta h) : h.1 aT = some (5, 3) := k.2.1.2.2.2
theorem sh_K.rr (k : sh_K x aR aO aH aT rt ta h) {i : Nat} (hi : i < 4) : h.2.2 aR i = some (rt i) := (k.2.2.2.1 i hi).1
theorem sh_K.krt (k : sh_K x aR aO aH aT rt ta h) {i : Nat} (hi : i < 4) : h.1 (rt i) = some (2, 0) := (k.2.2.2.1 i hi).2
theorem sh_K.rta (k : sh_K x aR aO aH aT rt ta h) {i : Nat} (hi : i < 3) : h.2.2 aT i = some (ta i) := (k.2.2.2.2.1 i hi).1
theorem sh_K.kta (k : sh_K x aR aO aH aT rt ta h) {i : Nat} (hi : i < 3) : h.1 (ta i) = some (1, 0) := (k.2.2.2.2.1 i hi).2
theorem sh_K.lk (k : sh_K x aR aO aH aT rt ta h) {a : Nat} (ha : h.1 a = some (2, 0)) : ∃ pa n, h.2.2 a 1 = some pa ∧ h.1 pa = some (6, n) ∧ n ≤ 4 := k.2.2.2.2.2.2.1 a ha
theorem sh_K.pa (k : sh_K x aR aO aH aT rt ta h) {pa n j : Nat} (ha : h.1 pa = some (6, n)) (hj : j < n) : ∃ q, h.2.2 pa j = some q ∧ h.1 q = some (3, 0) := k.2.2.2.2.2.2.2.1 pa n ha j hj
theorem sh_K.r1 (k : sh_K x aR aO aH aT rt ta h) {i : Nat} (hi : i < 4) : ∃ pa, h.2.2 (rt i) 1 = some pa ∧ h.1 pa = some (6, 1) := k.2.2.2.2.2.2.2.2.1 i hi
theorem sh_K.pl (k : sh_K x aR aO aH aT rt ta h) {q : Nat} (hq : h.1 q = some (3, 0)) : (h.2.1 q 0 = 0 ∨ h.2.1 q 0 = 1) ∧ (h.2.1 q 3 = 0 ∨ h.2.1 q 3 = 1) ∧ (h.2.1 q 4 = 0 ∨ h.2.1 q 4 = 1) ∧ (∀ b, h.2.2 q 2 = some b → h.1 b = some (2, 0)) ∧ (∀ b, h.2.2 q 6 = some b → h.1 b = some (2, 0)) := k.2.2.2.2.2.2.2.2.2 q hq
/-- an int is put -/
theorem sh_K.ui (k : sh_K x aR aO aH aT rt ta h) {a j : Nat} {v : Int32} (hp : h.1 a = some (3, 0) → j = 0 ∨ j = 3 ∨ j = 4 → v = 0 ∨ v = 1) : sh_K x aR aO aH aT rt ta (th_ui h a j v) := by
  refine ⟨k.1, k.2.1, k.2.2.1, k.2.2.2.1, k.2.2.2.2.1, k.2.2.2.2.2.1, k.2.2.2.2.2.2.1, k.2.2.2.2.2.2.2.1, k.2.2.2.2.2.2.2.2.1, fun q hq => ?_⟩
  obtain ⟨h0, h3, h4, h5, h6⟩ := k.pl hq
  have key : ∀ i, i = 0 ∨ i = 3 ∨ i = 4 → (h.2.1 q i = 0 ∨ h.2.1 q i = 1) → ((th_ui h a j v).2.1 q i = 0 ∨ (th_ui h a j v).2.1 q i = 1) := by
    intro i hi hv
    by_cases hqa : q = a
    · subst hqa
      by_cases hij : i = j
      · subst hij
        rw [th_ui_s]
        exact hp hq hi
      · rw [th_ui_k _ _ _ hij]
        exact hv
    · rw [th_ui_n _ _ _ _ hqa]
      exact hv
  exact ⟨key 0 (Or.inl rfl) h0, key 3 (Or.inr (Or.inl rfl)) h3, key 4 (Or.inr (Or.inr rfl)) h4, h5, h6⟩
/-- a reference of a place is put -/
theorem sh_K.urP (k : sh_K x aR aO aH aT rt ta h) {a j : Nat} {v : Option Nat} (ha : h.1 a = some (3, 0)) (hv : ∀ b, v = some b → h.1 b = some (2, 0)) : sh_K x aR aO aH aT rt ta (th_ur h a j v) := by
  have ne : ∀ {b : Nat} {t : Nat × Nat}, h.1 b = some t → t ≠ (3, 0) → ∀ i, (th_ur h a j v).2.2 b i = h.2.2 b i := fun hb ht i => th_ur_n _ _ _ _ (th_kne hb ha ht)
  refine ⟨⟨k.kx, ?_, ?_, ?_, ?_⟩, k.2.1, k.2.2.1, fun i hi => ⟨?_, k.krt hi⟩, fun i hi => ⟨?_, k.kta hi⟩, k.2.2.2.2.2.1, fun b hb => ?_, fun pa n hn i hi => ?_, fun i hi => ?_, fun q hq => ?_⟩
  · rw [ne k.kx (by decide)]; exact k.xR
  · rw [ne k.kx (by decide)]; exact k.xO
  · rw [ne k.kx (by decide)]; exact k.xH
  · rw [ne k.kx (by decide)]; exact k.xT
  · rw [ne k.kR (by decide)]; exact k.rr hi
  · rw [ne k.kT (by decide)]; exact k.rta hi
  · rw [ne hb (by decide)]; exact k.lk hb
  · rw [ne hn (by simp)]; exact k.pa hn hi
  · rw [ne (k.krt hi) (by decide)]; exact k.r1 hi
  · obtain ⟨h0, h3, h4, h5, h6⟩ := k.pl hq
    have key : ∀ i, (∀ b, h.2.2 q i = some b → h.1 b = some (2, 0)) → ∀ b, (th_ur h a j v).2.2 q i = some b → h.1 b = some (2, 0) := by
      intro i hi b hb
      by_cases hqa : q = a
      · subst hqa
        by_cases hij : i = j
        · subst hij
          rw [th_ur_s] at hb
          exact hv b hb
        · rw [th_ur_k _ _ _ hij] at hb
          exact hi b hb
      · rw [th_ur_n _ _ _ _ hqa] at hb
        exact hi b hb
    exact ⟨h0, h3, h4, key 2 h5, key 6 h6⟩
/-- an entry of the rows of objects is put -/
theorem sh_K.urA (k : sh_K x aR aO aH aT rt ta h) {a j : Nat} {v : Option Nat} (ha : a = aO ∨ a = aH) : sh_K x aR aO aH aT rt ta (th_ur h a j v) := by
  have ka : h.1 a = some (4, 80) := ha.elim (fun e => by rw [e]; exact k.kO) (fun e => by rw [e]; exact k.kH)
  have ne : ∀ {b : Nat} {t : Nat × Nat}, h.1 b = some t → t ≠ (4, 80) → ∀ i, (th_ur h a j v).2.2 b i = h.2.2 b i := fun hb ht i => th_ur_n _ _ _ _ (th_kne hb ka ht)
  refine ⟨⟨k.kx, ?_, ?_, ?_, ?_⟩, k.2.1, k.2.2.1, fun i hi => ⟨?_, k.krt hi⟩, fun i hi => ⟨?_, k.kta hi⟩, k.2.2.2.2.2.1, fun b hb => ?_, fun pa n hn i hi => ?_, fun i hi => ?_, fun q hq => ?_⟩
  · rw [ne k.kx (by decide)]; exact k.xR
  · rw [ne k.kx (by decide)]; exact k.xO
  · rw [ne k.kx (by decide)]; exact k.xH
  · rw [ne k.kx (by decide)]; exact k.xT
  · have hRa : aR ≠ a := ha.elim (fun e => by rw [e]; exact k.2.2.1.1) (fun e => by rw [e]; exact k.2.2.1.2.1)
    rw [th_ur_n _ _ _ _ hRa]; exact k.rr hi
  · rw [ne k.kT (by decide)]; exact k.rta hi
  · rw [ne hb (by decide)]; exact k.lk hb
  · rw [ne hn (by simp)]; exact k.pa hn hi
  · rw [ne (k.krt hi) (by decide)]; exact k.r1 hi
  · rw [ne hq (by decide), ne hq (by decide)]; exact k.pl hq
/-- an object has no more than the rows: it isn't of another kind -/
theorem sh_O.at {n i : Nat} (o : sh_O x aO n h) (hi : i < n) : ∃ a, h.2.2 aO i = some a ∧ h.1 a = some (2, 0) := o.2.2 i hi
end SHK
/-! the places of a lockable, read off its rows -/
def vw_pa (h : th_S) (a : Nat) : Nat := (h.2.2 a 1).getD 0
def vw_np (h : th_S) (a : Nat) : Nat := ((h.1 (vw_pa h a)).getD (0, 0)).2
def vw_pp (h : th_S) (a j : Nat) : Nat := (h.2.2 (vw_pa h a) j).getD 0
theorem vw_pa_of {h : th_S} {a pa : Nat} (e : h.2.2 a 1 = some pa) : vw_pa h a = pa := by simp [vw_pa, e]
theorem vw_np_of {h : th_S} {a pa n : Nat} (e : h.2.2 a 1 = some pa) (k : h.1 pa = some (6, n)) : vw_np h a = n := by simp [vw_np, vw_pa_of e, k]
theorem sh_K.vw {x aR aO aH aT : Nat} {rt ta : Nat → Nat} {h : th_S} (k : sh_K x aR aO aH aT rt ta h) {a : Nat} (ha : h.1 a = some (2, 0)) : h.2.2 a 1 = some (vw_pa h a) ∧ h.1 (vw_pa h a) = some (6, vw_np h a) ∧ vw_np h a ≤ 4 ∧ ∀ j, j < vw_np h a → h.2.2 (vw_pa h a) j = some (vw_pp h a j) ∧ h.1 (vw_pp h a j) = some (3, 0) := by
  obtain ⟨pa, n, e, kp, hn⟩ := k.lk ha
  have e1 := vw_pa_of e
  have e2 := vw_np_of e kp
  refine ⟨by rw [e1]; exact e, by rw [e1, e2]; exact kp, by rw [e2]; exact hn, fun j hj => ?_⟩
  rw [e2] at hj
  obtain ⟨q, hq, kq⟩ := k.pa kp hj
  have e3 : vw_pp h a j = q := by simp [vw_pp, e1, hq]
  rw [e1, e3]
  exact ⟨hq, kq⟩
end
section
/-! StableHeap: looks and searches -/
theorem sh_a0 {n : Int32} (h : (if n = 0 then (0 : Int32) else 1) = 0) : n = 0 := Decidable.byContradiction fun q => by simp [q] at h
theorem sh_a1 {n : Int32} (h : ¬ (if n = 0 then (0 : Int32) else 1) = 0) : ¬ n = 0 := fun q => h (by simp [q])
def sh_wl (x : Nat) (ta : Nat → Nat) (h : th_S) : Int32 := h.2.1 x 8 + h.2.1 (ta 0) 1 + h.2.1 (ta 1) 1 + h.2.1 (ta 2) 1
def sh_ac (ta : Nat → Nat) (h : th_S) : Int32 := (if h.2.1 (ta 0) 0 = 0 then 0 else 1) + (if h.2.1 (ta 1) 0 = 0 then 0 else 1) + (if h.2.1 (ta 2) 0 = 0 then 0 else 1)
def sh_tx (ta : Nat → Nat) (h : th_S) (k : Int32) (i : Nat) : Prop := i < 3 ∧ ¬ h.2.1 (ta i) 0 = 0 ∧ h.2.1 (ta i) 0 = k
def sh_nt (ta : Nat → Nat) (h : th_S) (k : Int32) : Prop := ∀ i, i < 3 → h.2.1 (ta i) 0 = 0 ∨ ¬ h.2.1 (ta i) 0 = k
def sh_hd (h : th_S) (r : Option Nat) : Int32 := match r with
  | none => 0
  | some b => h.2.1 b 0
theorem sh_lt3 {P : Nat → Prop} (h0 : P 0) (h1 : P 1) (h2 : P 2) : ∀ i, i < 3 → P i := fun i hi => by
  rcases (show i = 0 ∨ i = 1 ∨ i = 2 by omega) with rfl | rfl | rfl
  · exact h0
  · exact h1
  · exact h2

-- StableHeap.wordsInLog
set_option maxHeartbeats 4000000 in
set_option maxRecDepth 100000 in
theorem c_X3_wordsInLog (l : Launch) (hl0 : l.stackTraces = false) (D : va_G) (cs : Nat → ClassId) (h : th_S) (sz : Nat) (x aR aO aH aT : Nat) (rt ta : Nat → Nat) (hK : sh_K x aR aO aH aT rt ta h) : th_M l yX3_wordsInLog wsX3_wordsInLog { frames := 0, cells := 0, slots := 0, locals := 0 } D cs h sz [.ref x] (fun v h' => h = h' ∧ v = some (.int (sh_wl x ta h))) (fun E h' => False) := by
  refine mw_ofW (cc := cX3_wordsInLog) (maxL := 3) (ret := (some .int)) (by decide) rfl (fun w h => List.mem_cons_of_mem _ h) th_cd (Nat.le_of_ble_eq_true rfl) ?_
  intro p e s m below meth c hsz hC hr hlk hnm htab hM ls hl
  have hC : th_C D cs h p m c cX3_wordsInLog 3 s [.ref x] RX3 := hC
  have hx := hC.1.1
  have hb := hC.1.2.1
  have kx0 : h.1 x = some (0, 0) := hK.kx
  have hl : lv_has ls 3 [(0, .ref x)] := hl
  refine lv_aload_n hx hb dX3_wordsInLog_0 rfl (lv_at hl 0 rfl) ?_
  refine gi_0_8 (index := 131) hC hM kx0 mb_132 dX3_wordsInLog_1 ?_
  refine lv_istore_n (lv' := [(1, .int (h.2.1 x 8)), (0, .ref x)]) hx hb dX3_wordsInLog_4 rfl hl (by decide) rfl (fun ls hl => ?_)
  refine lv_iconst (v := 0) hx hb dX3_wordsInLog_5 (by decide) ?_
  refine lv_istore_n (lv' := [(2, .int 0), (1, .int (h.2.1 x 8)), (0, .ref x)]) hx hb dX3_wordsInLog_6 rfl hl (by decide) rfl (fun ls hl => ?_)
  refine lv_iload_n hx hb dX3_wordsInLog_7 rfl (lv_at hl 0 rfl) ?_
  refine lv_iconst (v := 3) hx hb dX3_wordsInLog_8 (by decide) ?_
  refine lv_icmp_ge (tgt := 30) hx hb dX3_wordsInLog_9 (by decide) (fun c9 => ?_) (fun c9 => ?_)
  · exact absurd c9 (by decide)
  · refine lv_iload_n hx hb dX3_wordsInLog_12 rfl (lv_at hl 1 rfl) ?_
    refine lv_aload_n hx hb dX3_wordsInLog_13 rfl (lv_at hl 2 rfl) ?_
    refine gr_0_3 (index := 26) hC hM kx0 mb_127 dX3_wordsInLog_14 hK.xT ?_
    refine lv_iload_n hx hb dX3_wordsInLog_17 rfl (lv_at hl 0 rfl) ?_
    refine al_5 (i := 0) hC hM hK.kT (rfl) (by decide) (by first | decide | omega) (hK.rta (by decide)) dX3_wordsInLog_18 ?_
    refine gi_1_1 (index := 134) hC hM (hK.kta (by decide)) mb_118 dX3_wordsInLog_19 ?_
    refine lv_iadd hx hb dX3_wordsInLog_22 ?_
    refine lv_istore_n (lv' := [(1, .int ((h.2.1 x 8) + (h.2.1 (ta 0) 1))), (2, .int 0), (0, .ref x)]) hx hb dX3_wordsInLog_23 rfl hl (by decide) rfl (fun ls hl => ?_)
    refine lv_iinc (v := 1) (lv' := [(2, .int 1), (1, .int ((h.2.1 x 8) + (h.2.1 (ta 0) 1))), (0, .ref x)]) hx hb dX3_wordsInLog_24 hl (k := 1) rfl (by decide) (by first | decide | omega) rfl (fun ls hl => ?_)
    refine lv_goto (tgt := 7) hx hb dX3_wordsInLog_27 (by decide) ?_
    refine lv_iload_n hx hb dX3_wordsInLog_7 rfl (lv_at hl 0 rfl) ?_
    refine lv_iconst (v := 3) hx hb dX3_wordsInLog_8 (by decide) ?_
    refine lv_icmp_ge (tgt := 30) hx hb dX3_wordsInLog_9 (by decide) (fun c9_1 => ?_) (fun c9_1 => ?_)
    · exact absurd c9_1 (by decide)
    · refine lv_iload_n hx hb dX3_wordsInLog_12 rfl (lv_at hl 1 rfl) ?_
      refine lv_aload_n hx hb dX3_wordsInLog_13 rfl (lv_at hl 2 rfl) ?_
      refine gr_0_3 (index := 26) hC hM kx0 mb_127 dX3_wordsInLog_14 hK.xT ?_
      refine lv_iload_n hx hb dX3_wordsInLog_17 rfl (lv_at hl 0 rfl) ?_
      refine al_5 (i := 1) hC hM hK.kT (rfl) (by decide) (by first | decide | omega) (hK.rta (by decide)) dX3_wordsInLog_18 ?_
      refine gi_1_1 (index := 134) hC hM (hK.kta (by decide)) mb_118 dX3_wordsInLog_19 ?_
      refine lv_iadd hx hb dX3_wordsInLog_22 ?_
      refine lv_istore_n (lv' := [(1, .int (((h.2.1 x 8) + (h.2.1 (ta 0) 1)) + (h.2.1 (ta 1) 1))), (2, .int 1), (0, .ref x)]) hx hb dX3_wordsInLog_23 rfl hl (by decide) rfl (fun ls hl => ?_)
      refine lv_iinc (v := 2) (lv' := [(2, .int 2), (1, .int (((h.2.1 x 8) + (h.2.1 (ta 0) 1)) + (h.2.1 (ta 1) 1))), (0, .ref x)]) hx hb dX3_wordsInLog_24 hl (k := 1) rfl (by decide) (by first | decide | omega) rfl (fun ls hl => ?_)
      refine lv_goto (tgt := 7) hx hb dX3_wordsInLog_27 (by decide) ?_
      refine lv_iload_n hx hb dX3_wordsInLog_7 rfl (lv_at hl 0 rfl) ?_
      refine lv_iconst (v := 3) hx hb dX3_wordsInLog_8 (by decide) ?_
      refine lv_icmp_ge (tgt := 30) hx hb dX3_wordsInLog_9 (by decide) (fun c9_2 => ?_) (fun c9_2 => ?_)
      · exact absurd c9_2 (by decide)
      · refine lv_iload_n hx hb dX3_wordsInLog_12 rfl (lv_at hl 1 rfl) ?_
        refine lv_aload_n hx hb dX3_wordsInLog_13 rfl (lv_at hl 2 rfl) ?_
        refine gr_0_3 (index := 26) hC hM kx0 mb_127 dX3_wordsInLog_14 hK.xT ?_
        refine lv_iload_n hx hb dX3_wordsInLog_17 rfl (lv_at hl 0 rfl) ?_
        refine al_5 (i := 2) hC hM hK.kT (rfl) (by decide) (by first | decide | omega) (hK.rta (by decide)) dX3_wordsInLog_18 ?_
        refine gi_1_1 (index := 134) hC hM (hK.kta (by decide)) mb_118 dX3_wordsInLog_19 ?_
        refine lv_iadd hx hb dX3_wordsInLog_22 ?_
        refine lv_istore_n (lv' := [(1, .int ((((h.2.1 x 8) + (h.2.1 (ta 0) 1)) + (h.2.1 (ta 1) 1)) + (h.2.1 (ta 2) 1))), (2, .int 2), (0, .ref x)]) hx hb dX3_wordsInLog_23 rfl hl (by decide) rfl (fun ls hl => ?_)
        refine lv_iinc (v := 3) (lv' := [(2, .int 3), (1, .int ((((h.2.1 x 8) + (h.2.1 (ta 0) 1)) + (h.2.1 (ta 1) 1)) + (h.2.1 (ta 2) 1))), (0, .ref x)]) hx hb dX3_wordsInLog_24 hl (k := 1) rfl (by decide) (by first | decide | omega) rfl (fun ls hl => ?_)
        refine lv_goto (tgt := 7) hx hb dX3_wordsInLog_27 (by decide) ?_
        refine lv_iload_n hx hb dX3_wordsInLog_7 rfl (lv_at hl 0 rfl) ?_
        refine lv_iconst (v := 3) hx hb dX3_wordsInLog_8 (by decide) ?_
        refine lv_icmp_ge (tgt := 30) hx hb dX3_wordsInLog_9 (by decide) (fun c9_3 => ?_) (fun c9_3 => ?_)
        · refine lv_iload_n hx hb dX3_wordsInLog_30 rfl (lv_at hl 1 rfl) ?_
          refine mw_iret hC hM hr hlk dX3_wordsInLog_31 (Nat.le_of_ble_eq_true rfl) (Nat.le_of_ble_eq_true rfl) ⟨_, rfl, ?_⟩
          exact ⟨rfl, rfl⟩
        · exact absurd c9_3 (by decide)

-- StableHeap.activeTransactions
set_option maxHeartbeats 4000000 in
set_option maxRecDepth 100000 in
theorem c_X3_activeTransactions (l : Launch) (hl0 : l.stackTraces = false) (D : va_G) (cs : Nat → ClassId) (h : th_S) (sz : Nat) (x aR aO aH aT : Nat) (rt ta : Nat → Nat) (hK : sh_K x aR aO aH aT rt ta h) : th_M l yX3_activeTransactions wsX3_activeTransactions { frames := 1, cells := 0, slots := 0, locals := 20 } D cs h sz [.ref x] (fun v h' => h = h' ∧ v = some (.int (sh_ac ta h))) (fun E h' => False) := by
  refine mw_ofW (cc := cX3_activeTransactions) (maxL := 3) (ret := (some .int)) (by decide) rfl (fun w h => List.mem_cons_of_mem _ h) th_cd (Nat.le_of_ble_eq_true rfl) ?_
  intro p e s m below meth c hsz hC hr hlk hnm htab hM ls hl
  have hC : th_C D cs h p m c cX3_activeTransactions 3 s [.ref x] RX3 := hC
  have hx := hC.1.1
  have hb := hC.1.2.1
  have kx0 : h.1 x = some (0, 0) := hK.kx
  have hl : lv_has ls 3 [(0, .ref x)] := hl
  refine lv_iconst (v := 0) hx hb dX3_activeTransactions_0 (by decide) ?_
  refine lv_istore_n (lv' := [(1, .int 0), (0, .ref x)]) hx hb dX3_activeTransactions_1 rfl hl (by decide) rfl (fun ls hl => ?_)
  refine lv_iconst (v := 0) hx hb dX3_activeTransactions_2 (by decide) ?_
  refine lv_istore_n (lv' := [(2, .int 0), (1, .int 0), (0, .ref x)]) hx hb dX3_activeTransactions_3 rfl hl (by decide) rfl (fun ls hl => ?_)
  refine lv_iload_n hx hb dX3_activeTransactions_4 rfl (lv_at hl 0 rfl) ?_
  refine lv_iconst (v := 3) hx hb dX3_activeTransactions_5 (by decide) ?_
  refine lv_icmp_ge (tgt := 30) hx hb dX3_activeTransactions_6 (by decide) (fun c6 => ?_) (fun c6 => ?_)
  · exact absurd c6 (by decide)
  · refine lv_aload_n hx hb dX3_activeTransactions_9 rfl (lv_at hl 2 rfl) ?_
    refine gr_0_3 (index := 26) hC hM kx0 mb_127 dX3_activeTransactions_10 hK.xT ?_
    refine lv_iload_n hx hb dX3_activeTransactions_13 rfl (lv_at hl 0 rfl) ?_
    refine al_5 (i := 0) hC hM hK.kT (rfl) (by decide) (by first | decide | omega) (hK.rta (by decide)) dX3_activeTransactions_14 ?_
    refine mw_callV (As := []) (rest := []) (n := 0) (C := RX2) (T := TX2) (N := 2) (ci := 2) hC hM (c_X2_isActive l hl0 D cs h s.heap.size (ta 0) (hK.kta (by decide))) (cwV 0 hC.1.2.2.2.2 (tb_V mb_169 mb_170 mb_171 mb_39 mb_172) rfl rfl rfl (by decide +kernel) ⟨Nat.le_of_ble_eq_true rfl, Nat.le_of_ble_eq_true rfl⟩) (th_at (h := h) (hK.kta (by decide))) rfl rfl rfl hl.1 (Nat.le_of_ble_eq_true rfl) dX3_activeTransactions_15 ⟨Nat.le_of_ble_eq_true rfl, Nat.le_of_ble_eq_true rfl⟩ (fun E ce q9 g9 H locs hp9 hM hce hcv hcl => ?_) (fun v9 g9 H locs hp9 hM => ?_)
    · exact (hp9.elim fun _ h9 => h9.2.elim)
    obtain ⟨h15, rfl, hp9⟩ := hp9
    obtain ⟨rfl, rfl⟩ := hp9
    refine W.eq (g2 := F0 m 18 ls [.int (if h.2.1 (ta 0) 0 = 0 then 0 else 1)]) rfl ?_
    refine lv_if_eq (tgt := 24) hx hb dX3_activeTransactions_18 (by decide) (fun c18 => ?_) (fun c18 => ?_)
    · have c18 := sh_a0 c18
      refine lv_iinc (v := 1) (lv' := [(2, .int 1), (1, .int 0), (0, .ref x)]) hx hb dX3_activeTransactions_24 hl (k := 0) rfl (by decide) (by first | decide | omega) rfl (fun ls hl => ?_)
      refine lv_goto (tgt := 4) hx hb dX3_activeTransactions_27 (by decide) ?_
      refine lv_iload_n hx hb dX3_activeTransactions_4 rfl (lv_at hl 0 rfl) ?_
      refine lv_iconst (v := 3) hx hb dX3_activeTransactions_5 (by decide) ?_
      refine lv_icmp_ge (tgt := 30) hx hb dX3_activeTransactions_6 (by decide) (fun c6_1 => ?_) (fun c6_1 => ?_)
      · exact absurd c6_1 (by decide)
      · refine lv_aload_n hx hb dX3_activeTransactions_9 rfl (lv_at hl 2 rfl) ?_
        refine gr_0_3 (index := 26) hC hM kx0 mb_127 dX3_activeTransactions_10 hK.xT ?_
        refine lv_iload_n hx hb dX3_activeTransactions_13 rfl (lv_at hl 0 rfl) ?_
        refine al_5 (i := 1) hC hM hK.kT (rfl) (by decide) (by first | decide | omega) (hK.rta (by decide)) dX3_activeTransactions_14 ?_
        refine mw_callV (As := []) (rest := []) (n := 0) (C := RX2) (T := TX2) (N := 2) (ci := 2) hC hM (c_X2_isActive l hl0 D cs h H.size (ta 1) (hK.kta (by decide))) (cwV 0 hC.1.2.2.2.2 (tb_V mb_169 mb_170 mb_171 mb_39 mb_172) rfl rfl rfl (by decide +kernel) ⟨Nat.le_of_ble_eq_true rfl, Nat.le_of_ble_eq_true rfl⟩) (th_at (h := h) (hK.kta (by decide))) rfl rfl rfl hl.1 (Nat.le_of_ble_eq_true rfl) dX3_activeTransactions_15 ⟨Nat.le_of_ble_eq_true rfl, Nat.le_of_ble_eq_true rfl⟩ (fun E ce q9 g9 H locs hp9 hM hce hcv hcl => ?_) (fun v9 g9 H locs hp9 hM => ?_)
        · exact (hp9.elim fun _ h9 => h9.2.elim)
        obtain ⟨h15, rfl, hp9⟩ := hp9
        obtain ⟨rfl, rfl⟩ := hp9
        refine W.eq (g2 := F0 m 18 ls [.int (if h.2.1 (ta 1) 0 = 0 then 0 else 1)]) rfl ?_
        refine lv_if_eq (tgt := 24) hx hb dX3_activeTransactions_18 (by decide) (fun c18_1 => ?_) (fun c18_1 => ?_)
        · have c18_1 := sh_a0 c18_1
          refine lv_iinc (v := 2) (lv' := [(2, .int 2), (1, .int 0), (0, .ref x)]) hx hb dX3_activeTransactions_24 hl (k := 0) rfl (by decide) (by first | decide | omega) rfl (fun ls hl => ?_)
          refine lv_goto (tgt := 4) hx hb dX3_activeTransactions_27 (by decide) ?_
          refine lv_iload_n hx hb dX3_activeTransactions_4 rfl (lv_at hl 0 rfl) ?_
          refine lv_iconst (v := 3) hx hb dX3_activeTransactions_5 (by decide) ?_
          refine lv_icmp_ge (tgt := 30) hx hb dX3_activeTransactions_6 (by decide) (fun c6_2 => ?_) (fun c6_2 => ?_)
          · exact absurd c6_2 (by decide)
          · refine lv_aload_n hx hb dX3_activeTransactions_9 rfl (lv_at hl 2 rfl) ?_
            refine gr_0_3 (index := 26) hC hM kx0 mb_127 dX3_activeTransactions_10 hK.xT ?_
            refine lv_iload_n hx hb dX3_activeTransactions_13 rfl (lv_at hl 0 rfl) ?_
            refine al_5 (i := 2) hC hM hK.kT (rfl) (by decide) (by first | decide | omega) (hK.rta (by decide)) dX3_activeTransactions_14 ?_
            refine mw_callV (As := []) (rest := []) (n := 0) (C := RX2) (T := TX2) (N := 2) (ci := 2) hC hM (c_X2_isActive l hl0 D cs h H.size (ta 2) (hK.kta (by decide))) (cwV 0 hC.1.2.2.2.2 (tb_V mb_169 mb_170 mb_171 mb_39 mb_172) rfl rfl rfl (by decide +kernel) ⟨Nat.le_of_ble_eq_true rfl, Nat.le_of_ble_eq_true rfl⟩) (th_at (h := h) (hK.kta (by decide))) rfl rfl rfl hl.1 (Nat.le_of_ble_eq_true rfl) dX3_activeTransactions_15 ⟨Nat.le_of_ble_eq_true rfl, Nat.le_of_ble_eq_true rfl⟩ (fun E ce q9 g9 H locs hp9 hM hce hcv hcl => ?_) (fun v9 g9 H locs hp9 hM => ?_)
            · exact (hp9.elim fun _ h9 => h9.2.elim)
            obtain ⟨h15, rfl, hp9⟩ := hp9
            obtain ⟨rfl, rfl⟩ := hp9
            refine W.eq (g2 := F0 m 18 ls [.int (if h.2.1 (ta 2) 0 = 0 then 0 else 1)]) rfl ?_
            refine lv_if_eq (tgt := 24) hx hb dX3_activeTransactions_18 (by decide) (fun c18_2 => ?_) (fun c18_2 => ?_)
            · have c18_2 := sh_a0 c18_2
              refine lv_iinc (v := 3) (lv' := [(2, .int 3), (1, .int 0), (0, .ref x)]) hx hb dX3_activeTransactions_24 hl (k := 0) rfl (by decide) (by first | decide | omega) rfl (fun ls hl => ?_)
              refine lv_goto (tgt := 4) hx hb dX3_activeTransactions_27 (by decide) ?_
              refine lv_iload_n hx hb dX3_activeTransactions_4 rfl (lv_at hl 0 rfl) ?_
              refine lv_iconst (v := 3) hx hb dX3_activeTransactions_5 (by decide) ?_
              refine lv_icmp_ge (tgt := 30) hx hb dX3_activeTransactions_6 (by decide) (fun c6_3 => ?_) (fun c6_3 => ?_)
              · refine lv_iload_n hx hb dX3_activeTransactions_30 rfl (lv_at hl 1 rfl) ?_
                refine mw_iret hC hM hr hlk dX3_activeTransactions_31 (Nat.le_of_ble_eq_true rfl) (Nat.le_of_ble_eq_true rfl) ⟨_, rfl, ?_⟩
                exact ⟨rfl, by simp [sh_ac, c18, c18_1, c18_2]⟩
              · exact absurd c6_3 (by decide)
            · have c18_2 := sh_a1 c18_2
              refine lv_iinc (v := 1) (lv' := [(1, .int 1), (2, .int 2), (0, .ref x)]) hx hb dX3_activeTransactions_21 hl (k := 1) rfl (by decide) (by first | decide | omega) rfl (fun ls hl => ?_)
              refine lv_iinc (v := 3) (lv' := [(2, .int 3), (1, .int 1), (0, .ref x)]) hx hb dX3_activeTransactions_24 hl (k := 1) rfl (by decide) (by first | decide | omega) rfl (fun ls hl => ?_)
              refine lv_goto (tgt := 4) hx hb dX3_activeTransactions_27 (by decide) ?_
              refine lv_iload_n hx hb dX3_activeTransactions_4 rfl (lv_at hl 0 rfl) ?_
              refine lv_iconst (v := 3) hx hb dX3_activeTransactions_5 (by decide) ?_
              refine lv_icmp_ge (tgt := 30) hx hb dX3_activeTransactions_6 (by decide) (fun c6_3 => ?_) (fun c6_3 => ?_)
              · refine lv_iload_n hx hb dX3_activeTransactions_30 rfl (lv_at hl 1 rfl) ?_
                refine mw_iret hC hM hr hlk dX3_activeTransactions_31 (Nat.le_of_ble_eq_true rfl) (Nat.le_of_ble_eq_true rfl) ⟨_, rfl, ?_⟩
                exact ⟨rfl, by simp [sh_ac, c18, c18_1, c18_2]⟩
              · exact absurd c6_3 (by decide)
        · have c18_1 := sh_a1 c18_1
          refine lv_iinc (v := 1) (lv' := [(1, .int 1), (2, .int 1), (0, .ref x)]) hx hb dX3_activeTransactions_21 hl (k := 1) rfl (by decide) (by first | decide | omega) rfl (fun ls hl => ?_)
          refine lv_iinc (v := 2) (lv' := [(2, .int 2), (1, .int 1), (0, .ref x)]) hx hb dX3_activeTransactions_24 hl (k := 1) rfl (by decide) (by first | decide | omega) rfl (fun ls hl => ?_)
          refine lv_goto (tgt := 4) hx hb dX3_activeTransactions_27 (by decide) ?_
          refine lv_iload_n hx hb dX3_activeTransactions_4 rfl (lv_at hl 0 rfl) ?_
          refine lv_iconst (v := 3) hx hb dX3_activeTransactions_5 (by decide) ?_
          refine lv_icmp_ge (tgt := 30) hx hb dX3_activeTransactions_6 (by decide) (fun c6_2 => ?_) (fun c6_2 => ?_)
          · exact absurd c6_2 (by decide)
          · refine lv_aload_n hx hb dX3_activeTransactions_9 rfl (lv_at hl 2 rfl) ?_
            refine gr_0_3 (index := 26) hC hM kx0 mb_127 dX3_activeTransactions_10 hK.xT ?_
            refine lv_iload_n hx hb dX3_activeTransactions_13 rfl (lv_at hl 0 rfl) ?_
            refine al_5 (i := 2) hC hM hK.kT (rfl) (by decide) (by first | decide | omega) (hK.rta (by decide)) dX3_activeTransactions_14 ?_
            refine mw_callV (As := []) (rest := []) (n := 0) (C := RX2) (T := TX2) (N := 2) (ci := 2) hC hM (c_X2_isActive l hl0 D cs h H.size (ta 2) (hK.kta (by decide))) (cwV 0 hC.1.2.2.2.2 (tb_V mb_169 mb_170 mb_171 mb_39 mb_172) rfl rfl rfl (by decide +kernel) ⟨Nat.le_of_ble_eq_true rfl, Nat.le_of_ble_eq_true rfl⟩) (th_at (h := h) (hK.kta (by decide))) rfl rfl rfl hl.1 (Nat.le_of_ble_eq_true rfl) dX3_activeTransactions_15 ⟨Nat.le_of_ble_eq_true rfl, Nat.le_of_ble_eq_true rfl⟩ (fun E ce q9 g9 H locs hp9 hM hce hcv hcl => ?_) (fun v9 g9 H locs hp9 hM => ?_)
            · exact (hp9.elim fun _ h9 => h9.2.elim)
            obtain ⟨h15, rfl, hp9⟩ := hp9
            obtain ⟨rfl, rfl⟩ := hp9
            refine W.eq (g2 := F0 m 18 ls [.int (if h.2.1 (ta 2) 0 = 0 then 0 else 1)]) rfl ?_
            refine lv_if_eq (tgt := 24) hx hb dX3_activeTransactions_18 (by decide) (fun c18_2 => ?_) (fun c18_2 => ?_)
            · have c18_2 := sh_a0 c18_2
              refine lv_iinc (v := 3) (lv' := [(2, .int 3), (1, .int 1), (0, .ref x)]) hx hb dX3_activeTransactions_24 hl (k := 0) rfl (by decide) (by first | decide | omega) rfl (fun ls hl => ?_)
              refine lv_goto (tgt := 4) hx hb dX3_activeTransactions_27 (by decide) ?_
              refine lv_iload_n hx hb dX3_activeTransactions_4 rfl (lv_at hl 0 rfl) ?_
              refine lv_iconst (v := 3) hx hb dX3_activeTransactions_5 (by decide) ?_
              refine lv_icmp_ge (tgt := 30) hx hb dX3_activeTransactions_6 (by decide) (fun c6_3 => ?_) (fun c6_3 => ?_)
              · refine lv_iload_n hx hb dX3_activeTransactions_30 rfl (lv_at hl 1 rfl) ?_
                refine mw_iret hC hM hr hlk dX3_activeTransactions_31 (Nat.le_of_ble_eq_true rfl) (Nat.le_of_ble_eq_true rfl) ⟨_, rfl, ?_⟩
                exact ⟨rfl, by simp [sh_ac, c18, c18_1, c18_2]⟩
              · exact absurd c6_3 (by decide)
            · have c18_2 := sh_a1 c18_2
              refine lv_iinc (v := 2) (lv' := [(1, .int 2), (2, .int 2), (0, .ref x)]) hx hb dX3_activeTransactions_21 hl (k := 1) rfl (by decide) (by first | decide | omega) rfl (fun ls hl => ?_)
              refine lv_iinc (v := 3) (lv' := [(2, .int 3), (1, .int 2), (0, .ref x)]) hx hb dX3_activeTransactions_24 hl (k := 1) rfl (by decide) (by first | decide | omega) rfl (fun ls hl => ?_)
              refine lv_goto (tgt := 4) hx hb dX3_activeTransactions_27 (by decide) ?_
              refine lv_iload_n hx hb dX3_activeTransactions_4 rfl (lv_at hl 0 rfl) ?_
              refine lv_iconst (v := 3) hx hb dX3_activeTransactions_5 (by decide) ?_
              refine lv_icmp_ge (tgt := 30) hx hb dX3_activeTransactions_6 (by decide) (fun c6_3 => ?_) (fun c6_3 => ?_)
              · refine lv_iload_n hx hb dX3_activeTransactions_30 rfl (lv_at hl 1 rfl) ?_
                refine mw_iret hC hM hr hlk dX3_activeTransactions_31 (Nat.le_of_ble_eq_true rfl) (Nat.le_of_ble_eq_true rfl) ⟨_, rfl, ?_⟩
                exact ⟨rfl, by simp [sh_ac, c18, c18_1, c18_2]⟩
              · exact absurd c6_3 (by decide)
    · have c18 := sh_a1 c18
      refine lv_iinc (v := 1) (lv' := [(1, .int 1), (2, .int 0), (0, .ref x)]) hx hb dX3_activeTransactions_21 hl (k := 1) rfl (by decide) (by first | decide | omega) rfl (fun ls hl => ?_)
      refine lv_iinc (v := 1) (lv' := [(2, .int 1), (1, .int 1), (0, .ref x)]) hx hb dX3_activeTransactions_24 hl (k := 1) rfl (by decide) (by first | decide | omega) rfl (fun ls hl => ?_)
      refine lv_goto (tgt := 4) hx hb dX3_activeTransactions_27 (by decide) ?_
      refine lv_iload_n hx hb dX3_activeTransactions_4 rfl (lv_at hl 0 rfl) ?_
      refine lv_iconst (v := 3) hx hb dX3_activeTransactions_5 (by decide) ?_
      refine lv_icmp_ge (tgt := 30) hx hb dX3_activeTransactions_6 (by decide) (fun c6_1 => ?_) (fun c6_1 => ?_)
      · exact absurd c6_1 (by decide)
      · refine lv_aload_n hx hb dX3_activeTransactions_9 rfl (lv_at hl 2 rfl) ?_
        refine gr_0_3 (index := 26) hC hM kx0 mb_127 dX3_activeTransactions_10 hK.xT ?_
        refine lv_iload_n hx hb dX3_activeTransactions_13 rfl (lv_at hl 0 rfl) ?_
        refine al_5 (i := 1) hC hM hK.kT (rfl) (by decide) (by first | decide | omega) (hK.rta (by decide)) dX3_activeTransactions_14 ?_
        refine mw_callV (As := []) (rest := []) (n := 0) (C := RX2) (T := TX2) (N := 2) (ci := 2) hC hM (c_X2_isActive l hl0 D cs h H.size (ta 1) (hK.kta (by decide))) (cwV 0 hC.1.2.2.2.2 (tb_V mb_169 mb_170 mb_171 mb_39 mb_172) rfl rfl rfl (by decide +kernel) ⟨Nat.le_of_ble_eq_true rfl, Nat.le_of_ble_eq_true rfl⟩) (th_at (h := h) (hK.kta (by decide))) rfl rfl rfl hl.1 (Nat.le_of_ble_eq_true rfl) dX3_activeTransactions_15 ⟨Nat.le_of_ble_eq_true rfl, Nat.le_of_ble_eq_true rfl⟩ (fun E ce q9 g9 H locs hp9 hM hce hcv hcl => ?_) (fun v9 g9 H locs hp9 hM => ?_)
        · exact (hp9.elim fun _ h9 => h9.2.elim)
        obtain ⟨h15, rfl, hp9⟩ := hp9
        obtain ⟨rfl, rfl⟩ := hp9
        refine W.eq (g2 := F0 m 18 ls [.int (if h.2.1 (ta 1) 0 = 0 then 0 else 1)]) rfl ?_
        refine lv_if_eq (tgt := 24) hx hb dX3_activeTransactions_18 (by decide) (fun c18_1 => ?_) (fun c18_1 => ?_)
        · have c18_1 := sh_a0 c18_1
          refine lv_iinc (v := 2) (lv' := [(2, .int 2), (1, .int 1), (0, .ref x)]) hx hb dX3_activeTransactions_24 hl (k := 0) rfl (by decide) (by first | decide | omega) rfl (fun ls hl => ?_)
          refine lv_goto (tgt := 4) hx hb dX3_activeTransactions_27 (by decide) ?_
          refine lv_iload_n hx hb dX3_activeTransactions_4 rfl (lv_at hl 0 rfl) ?_
          refine lv_iconst (v := 3) hx hb dX3_activeTransactions_5 (by decide) ?_
          refine lv_icmp_ge (tgt := 30) hx hb dX3_activeTransactions_6 (by decide) (fun c6_2 => ?_) (fun c6_2 => ?_)
          · exact absurd c6_2 (by decide)
          · refine lv_aload_n hx hb dX3_activeTransactions_9 rfl (lv_at hl 2 rfl) ?_
            refine gr_0_3 (index := 26) hC hM kx0 mb_127 dX3_activeTransactions_10 hK.xT ?_
            refine lv_iload_n hx hb dX3_activeTransactions_13 rfl (lv_at hl 0 rfl) ?_
            refine al_5 (i := 2) hC hM hK.kT (rfl) (by decide) (by first | decide | omega) (hK.rta (by decide)) dX3_activeTransactions_14 ?_
            refine mw_callV (As := []) (rest := []) (n := 0) (C := RX2) (T := TX2) (N := 2) (ci := 2) hC hM (c_X2_isActive l hl0 D cs h H.size (ta 2) (hK.kta (by decide))) (cwV 0 hC.1.2.2.2.2 (tb_V mb_169 mb_170 mb_171 mb_39 mb_172) rfl rfl rfl (by decide +kernel) ⟨Nat.le_of_ble_eq_true rfl, Nat.le_of_ble_eq_true rfl⟩) (th_at (h := h) (hK.kta (by decide))) rfl rfl rfl hl.1 (Nat.le_of_ble_eq_true rfl) dX3_activeTransactions_15 ⟨Nat.le_of_ble_eq_true rfl, Nat.le_of_ble_eq_true rfl⟩ (fun E ce q9 g9 H locs hp9 hM hce hcv hcl => ?_) (fun v9 g9 H locs hp9 hM => ?_)
            · exact (hp9.elim fun _ h9 => h9.2.elim)
            obtain ⟨h15, rfl, hp9⟩ := hp9
            obtain ⟨rfl, rfl⟩ := hp9
            refine W.eq (g2 := F0 m 18 ls [.int (if h.2.1 (ta 2) 0 = 0 then 0 else 1)]) rfl ?_
            refine lv_if_eq (tgt := 24) hx hb dX3_activeTransactions_18 (by decide) (fun c18_2 => ?_) (fun c18_2 => ?_)
            · have c18_2 := sh_a0 c18_2
              refine lv_iinc (v := 3) (lv' := [(2, .int 3), (1, .int 1), (0, .ref x)]) hx hb dX3_activeTransactions_24 hl (k := 0) rfl (by decide) (by first | decide | omega) rfl (fun ls hl => ?_)
              refine lv_goto (tgt := 4) hx hb dX3_activeTransactions_27 (by decide) ?_
              refine lv_iload_n hx hb dX3_activeTransactions_4 rfl (lv_at hl 0 rfl) ?_
              refine lv_iconst (v := 3) hx hb dX3_activeTransactions_5 (by decide) ?_
              refine lv_icmp_ge (tgt := 30) hx hb dX3_activeTransactions_6 (by decide) (fun c6_3 => ?_) (fun c6_3 => ?_)
              · refine lv_iload_n hx hb dX3_activeTransactions_30 rfl (lv_at hl 1 rfl) ?_
                refine mw_iret hC hM hr hlk dX3_activeTransactions_31 (Nat.le_of_ble_eq_true rfl) (Nat.le_of_ble_eq_true rfl) ⟨_, rfl, ?_⟩
                exact ⟨rfl, by simp [sh_ac, c18, c18_1, c18_2]⟩
              · exact absurd c6_3 (by decide)
            · have c18_2 := sh_a1 c18_2
              refine lv_iinc (v := 2) (lv' := [(1, .int 2), (2, .int 2), (0, .ref x)]) hx hb dX3_activeTransactions_21 hl (k := 1) rfl (by decide) (by first | decide | omega) rfl (fun ls hl => ?_)
              refine lv_iinc (v := 3) (lv' := [(2, .int 3), (1, .int 2), (0, .ref x)]) hx hb dX3_activeTransactions_24 hl (k := 1) rfl (by decide) (by first | decide | omega) rfl (fun ls hl => ?_)
              refine lv_goto (tgt := 4) hx hb dX3_activeTransactions_27 (by decide) ?_
              refine lv_iload_n hx hb dX3_activeTransactions_4 rfl (lv_at hl 0 rfl) ?_
              refine lv_iconst (v := 3) hx hb dX3_activeTransactions_5 (by decide) ?_
              refine lv_icmp_ge (tgt := 30) hx hb dX3_activeTransactions_6 (by decide) (fun c6_3 => ?_) (fun c6_3 => ?_)
              · refine lv_iload_n hx hb dX3_activeTransactions_30 rfl (lv_at hl 1 rfl) ?_
                refine mw_iret hC hM hr hlk dX3_activeTransactions_31 (Nat.le_of_ble_eq_true rfl) (Nat.le_of_ble_eq_true rfl) ⟨_, rfl, ?_⟩
                exact ⟨rfl, by simp [sh_ac, c18, c18_1, c18_2]⟩
              · exact absurd c6_3 (by decide)
        · have c18_1 := sh_a1 c18_1
          refine lv_iinc (v := 2) (lv' := [(1, .int 2), (2, .int 1), (0, .ref x)]) hx hb dX3_activeTransactions_21 hl (k := 1) rfl (by decide) (by first | decide | omega) rfl (fun ls hl => ?_)
          refine lv_iinc (v := 2) (lv' := [(2, .int 2), (1, .int 2), (0, .ref x)]) hx hb dX3_activeTransactions_24 hl (k := 1) rfl (by decide) (by first | decide | omega) rfl (fun ls hl => ?_)
          refine lv_goto (tgt := 4) hx hb dX3_activeTransactions_27 (by decide) ?_
          refine lv_iload_n hx hb dX3_activeTransactions_4 rfl (lv_at hl 0 rfl) ?_
          refine lv_iconst (v := 3) hx hb dX3_activeTransactions_5 (by decide) ?_
          refine lv_icmp_ge (tgt := 30) hx hb dX3_activeTransactions_6 (by decide) (fun c6_2 => ?_) (fun c6_2 => ?_)
          · exact absurd c6_2 (by decide)
          · refine lv_aload_n hx hb dX3_activeTransactions_9 rfl (lv_at hl 2 rfl) ?_
            refine gr_0_3 (index := 26) hC hM kx0 mb_127 dX3_activeTransactions_10 hK.xT ?_
            refine lv_iload_n hx hb dX3_activeTransactions_13 rfl (lv_at hl 0 rfl) ?_
            refine al_5 (i := 2) hC hM hK.kT (rfl) (by decide) (by first | decide | omega) (hK.rta (by decide)) dX3_activeTransactions_14 ?_
            refine mw_callV (As := []) (rest := []) (n := 0) (C := RX2) (T := TX2) (N := 2) (ci := 2) hC hM (c_X2_isActive l hl0 D cs h H.size (ta 2) (hK.kta (by decide))) (cwV 0 hC.1.2.2.2.2 (tb_V mb_169 mb_170 mb_171 mb_39 mb_172) rfl rfl rfl (by decide +kernel) ⟨Nat.le_of_ble_eq_true rfl, Nat.le_of_ble_eq_true rfl⟩) (th_at (h := h) (hK.kta (by decide))) rfl rfl rfl hl.1 (Nat.le_of_ble_eq_true rfl) dX3_activeTransactions_15 ⟨Nat.le_of_ble_eq_true rfl, Nat.le_of_ble_eq_true rfl⟩ (fun E ce q9 g9 H locs hp9 hM hce hcv hcl => ?_) (fun v9 g9 H locs hp9 hM => ?_)
            · exact (hp9.elim fun _ h9 => h9.2.elim)
            obtain ⟨h15, rfl, hp9⟩ := hp9
            obtain ⟨rfl, rfl⟩ := hp9
            refine W.eq (g2 := F0 m 18 ls [.int (if h.2.1 (ta 2) 0 = 0 then 0 else 1)]) rfl ?_
            refine lv_if_eq (tgt := 24) hx hb dX3_activeTransactions_18 (by decide) (fun c18_2 => ?_) (fun c18_2 => ?_)
            · have c18_2 := sh_a0 c18_2
              refine lv_iinc (v := 3) (lv' := [(2, .int 3), (1, .int 2), (0, .ref x)]) hx hb dX3_activeTransactions_24 hl (k := 0) rfl (by decide) (by first | decide | omega) rfl (fun ls hl => ?_)
              refine lv_goto (tgt := 4) hx hb dX3_activeTransactions_27 (by decide) ?_
              refine lv_iload_n hx hb dX3_activeTransactions_4 rfl (lv_at hl 0 rfl) ?_
              refine lv_iconst (v := 3) hx hb dX3_activeTransactions_5 (by decide) ?_
              refine lv_icmp_ge (tgt := 30) hx hb dX3_activeTransactions_6 (by decide) (fun c6_3 => ?_) (fun c6_3 => ?_)
              · refine lv_iload_n hx hb dX3_activeTransactions_30 rfl (lv_at hl 1 rfl) ?_
                refine mw_iret hC hM hr hlk dX3_activeTransactions_31 (Nat.le_of_ble_eq_true rfl) (Nat.le_of_ble_eq_true rfl) ⟨_, rfl, ?_⟩
                exact ⟨rfl, by simp [sh_ac, c18, c18_1, c18_2]⟩
              · exact absurd c6_3 (by decide)
            · have c18_2 := sh_a1 c18_2
              refine lv_iinc (v := 3) (lv' := [(1, .int 3), (2, .int 2), (0, .ref x)]) hx hb dX3_activeTransactions_21 hl (k := 1) rfl (by decide) (by first | decide | omega) rfl (fun ls hl => ?_)
              refine lv_iinc (v := 3) (lv' := [(2, .int 3), (1, .int 3), (0, .ref x)]) hx hb dX3_activeTransactions_24 hl (k := 1) rfl (by decide) (by first | decide | omega) rfl (fun ls hl => ?_)
              refine lv_goto (tgt := 4) hx hb dX3_activeTransactions_27 (by decide) ?_
              refine lv_iload_n hx hb dX3_activeTransactions_4 rfl (lv_at hl 0 rfl) ?_
              refine lv_iconst (v := 3) hx hb dX3_activeTransactions_5 (by decide) ?_
              refine lv_icmp_ge (tgt := 30) hx hb dX3_activeTransactions_6 (by decide) (fun c6_3 => ?_) (fun c6_3 => ?_)
              · refine lv_iload_n hx hb dX3_activeTransactions_30 rfl (lv_at hl 1 rfl) ?_
                refine mw_iret hC hM hr hlk dX3_activeTransactions_31 (Nat.le_of_ble_eq_true rfl) (Nat.le_of_ble_eq_true rfl) ⟨_, rfl, ?_⟩
                exact ⟨rfl, by simp [sh_ac, c18, c18_1, c18_2]⟩
              · exact absurd c6_3 (by decide)

-- StableHeap.unusedTransaction
set_option maxHeartbeats 4000000 in
set_option maxRecDepth 100000 in
theorem c_X3_unusedTransaction (l : Launch) (hl0 : l.stackTraces = false) (D : va_G) (cs : Nat → ClassId) (h : th_S) (sz : Nat) (x aR aO aH aT : Nat) (rt ta : Nat → Nat) (hK : sh_K x aR aO aH aT rt ta h) : th_M l yX3_unusedTransaction wsX3_unusedTransaction { frames := 6, cells := 1, slots := 6, locals := 90 } D cs h sz [.ref x] (fun v h' => h = h' ∧ ∃ i, i < 3 ∧ v = some (.ref (ta i)) ∧ h.2.1 (ta i) 0 = 0) (fun E h' => E = "java/lang/IllegalStateException" ∧ h = h' ∧ ∀ i, i < 3 → ¬ h.2.1 (ta i) 0 = 0) := by
  refine mw_ofW (cc := cX3_unusedTransaction) (maxL := 2) (ret := (some (.object "StableHeap$Transaction"))) (by decide) rfl (fun w h => List.mem_cons_of_mem _ h) th_cd (Nat.le_of_ble_eq_true rfl) ?_
  intro p e s m below meth c hsz hC hr hlk hnm htab hM ls hl
  have hC : th_C D cs h p m c cX3_unusedTransaction 2 s [.ref x] RX3 := hC
  have hx := hC.1.1
  have hb := hC.1.2.1
  have kx0 : h.1 x = some (0, 0) := hK.kx
  have hl : lv_has ls 2 [(0, .ref x)] := hl
  refine lv_iconst (v := 0) hx hb dX3_unusedTransaction_0 (by decide) ?_
  refine lv_istore_n (lv' := [(1, .int 0), (0, .ref x)]) hx hb dX3_unusedTransaction_1 rfl hl (by decide) rfl (fun ls hl => ?_)
  refine lv_iload_n hx hb dX3_unusedTransaction_2 rfl (lv_at hl 0 rfl) ?_
  refine lv_iconst (v := 3) hx hb dX3_unusedTransaction_3 (by decide) ?_
  refine lv_icmp_ge (tgt := 32) hx hb dX3_unusedTransaction_4 (by decide) (fun c4 => ?_) (fun c4 => ?_)
  · exact absurd c4 (by decide)
  · refine lv_aload_n hx hb dX3_unusedTransaction_7 rfl (lv_at hl 1 rfl) ?_
    refine gr_0_3 (index := 26) hC hM kx0 mb_127 dX3_unusedTransaction_8 hK.xT ?_
    refine lv_iload_n hx hb dX3_unusedTransaction_11 rfl (lv_at hl 0 rfl) ?_
    refine al_5 (i := 0) hC hM hK.kT (rfl) (by decide) (by first | decide | omega) (hK.rta (by decide)) dX3_unusedTransaction_12 ?_
    refine mw_callV (As := []) (rest := []) (n := 0) (C := RX2) (T := TX2) (N := 2) (ci := 2) hC hM (c_X2_isActive l hl0 D cs h s.heap.size (ta 0) (hK.kta (by decide))) (cwV 0 hC.1.2.2.2.2 (tb_V mb_169 mb_170 mb_171 mb_39 mb_172) rfl rfl rfl (by decide +kernel) ⟨Nat.le_of_ble_eq_true rfl, Nat.le_of_ble_eq_true rfl⟩) (th_at (h := h) (hK.kta (by decide))) rfl rfl rfl hl.1 (Nat.le_of_ble_eq_true rfl) dX3_unusedTransaction_13 ⟨Nat.le_of_ble_eq_true rfl, Nat.le_of_ble_eq_true rfl⟩ (fun E ce q9 g9 H locs hp9 hM hce hcv hcl => ?_) (fun v9 g9 H locs hp9 hM => ?_)
    · exact (hp9.elim fun _ h9 => h9.2.elim)
    obtain ⟨h13, rfl, hp9⟩ := hp9
    obtain ⟨rfl, rfl⟩ := hp9
    refine W.eq (g2 := F0 m 16 ls [.int (if h.2.1 (ta 0) 0 = 0 then 0 else 1)]) rfl ?_
    refine lv_if_ne (tgt := 26) hx hb dX3_unusedTransaction_16 (by decide) (fun c16 => ?_) (fun c16 => ?_)
    · have c16 := sh_a1 c16
      refine lv_iinc (v := 1) (lv' := [(1, .int 1), (0, .ref x)]) hx hb dX3_unusedTransaction_26 hl (k := 0) rfl (by decide) (by first | decide | omega) rfl (fun ls hl => ?_)
      refine lv_goto (tgt := 2) hx hb dX3_unusedTransaction_29 (by decide) ?_
      refine lv_iload_n hx hb dX3_unusedTransaction_2 rfl (lv_at hl 0 rfl) ?_
      refine lv_iconst (v := 3) hx hb dX3_unusedTransaction_3 (by decide) ?_
      refine lv_icmp_ge (tgt := 32) hx hb dX3_unusedTransaction_4 (by decide) (fun c4_1 => ?_) (fun c4_1 => ?_)
      · exact absurd c4_1 (by decide)
      · refine lv_aload_n hx hb dX3_unusedTransaction_7 rfl (lv_at hl 1 rfl) ?_
        refine gr_0_3 (index := 26) hC hM kx0 mb_127 dX3_unusedTransaction_8 hK.xT ?_
        refine lv_iload_n hx hb dX3_unusedTransaction_11 rfl (lv_at hl 0 rfl) ?_
        refine al_5 (i := 1) hC hM hK.kT (rfl) (by decide) (by first | decide | omega) (hK.rta (by decide)) dX3_unusedTransaction_12 ?_
        refine mw_callV (As := []) (rest := []) (n := 0) (C := RX2) (T := TX2) (N := 2) (ci := 2) hC hM (c_X2_isActive l hl0 D cs h H.size (ta 1) (hK.kta (by decide))) (cwV 0 hC.1.2.2.2.2 (tb_V mb_169 mb_170 mb_171 mb_39 mb_172) rfl rfl rfl (by decide +kernel) ⟨Nat.le_of_ble_eq_true rfl, Nat.le_of_ble_eq_true rfl⟩) (th_at (h := h) (hK.kta (by decide))) rfl rfl rfl hl.1 (Nat.le_of_ble_eq_true rfl) dX3_unusedTransaction_13 ⟨Nat.le_of_ble_eq_true rfl, Nat.le_of_ble_eq_true rfl⟩ (fun E ce q9 g9 H locs hp9 hM hce hcv hcl => ?_) (fun v9 g9 H locs hp9 hM => ?_)
        · exact (hp9.elim fun _ h9 => h9.2.elim)
        obtain ⟨h13, rfl, hp9⟩ := hp9
        obtain ⟨rfl, rfl⟩ := hp9
        refine W.eq (g2 := F0 m 16 ls [.int (if h.2.1 (ta 1) 0 = 0 then 0 else 1)]) rfl ?_
        refine lv_if_ne (tgt := 26) hx hb dX3_unusedTransaction_16 (by decide) (fun c16_1 => ?_) (fun c16_1 => ?_)
        · have c16_1 := sh_a1 c16_1
          refine lv_iinc (v := 2) (lv' := [(1, .int 2), (0, .ref x)]) hx hb dX3_unusedTransaction_26 hl (k := 0) rfl (by decide) (by first | decide | omega) rfl (fun ls hl => ?_)
          refine lv_goto (tgt := 2) hx hb dX3_unusedTransaction_29 (by decide) ?_
          refine lv_iload_n hx hb dX3_unusedTransaction_2 rfl (lv_at hl 0 rfl) ?_
          refine lv_iconst (v := 3) hx hb dX3_unusedTransaction_3 (by decide) ?_
          refine lv_icmp_ge (tgt := 32) hx hb dX3_unusedTransaction_4 (by decide) (fun c4_2 => ?_) (fun c4_2 => ?_)
          · exact absurd c4_2 (by decide)
          · refine lv_aload_n hx hb dX3_unusedTransaction_7 rfl (lv_at hl 1 rfl) ?_
            refine gr_0_3 (index := 26) hC hM kx0 mb_127 dX3_unusedTransaction_8 hK.xT ?_
            refine lv_iload_n hx hb dX3_unusedTransaction_11 rfl (lv_at hl 0 rfl) ?_
            refine al_5 (i := 2) hC hM hK.kT (rfl) (by decide) (by first | decide | omega) (hK.rta (by decide)) dX3_unusedTransaction_12 ?_
            refine mw_callV (As := []) (rest := []) (n := 0) (C := RX2) (T := TX2) (N := 2) (ci := 2) hC hM (c_X2_isActive l hl0 D cs h H.size (ta 2) (hK.kta (by decide))) (cwV 0 hC.1.2.2.2.2 (tb_V mb_169 mb_170 mb_171 mb_39 mb_172) rfl rfl rfl (by decide +kernel) ⟨Nat.le_of_ble_eq_true rfl, Nat.le_of_ble_eq_true rfl⟩) (th_at (h := h) (hK.kta (by decide))) rfl rfl rfl hl.1 (Nat.le_of_ble_eq_true rfl) dX3_unusedTransaction_13 ⟨Nat.le_of_ble_eq_true rfl, Nat.le_of_ble_eq_true rfl⟩ (fun E ce q9 g9 H locs hp9 hM hce hcv hcl => ?_) (fun v9 g9 H locs hp9 hM => ?_)
            · exact (hp9.elim fun _ h9 => h9.2.elim)
            obtain ⟨h13, rfl, hp9⟩ := hp9
            obtain ⟨rfl, rfl⟩ := hp9
            refine W.eq (g2 := F0 m 16 ls [.int (if h.2.1 (ta 2) 0 = 0 then 0 else 1)]) rfl ?_
            refine lv_if_ne (tgt := 26) hx hb dX3_unusedTransaction_16 (by decide) (fun c16_2 => ?_) (fun c16_2 => ?_)
            · have c16_2 := sh_a1 c16_2
              refine lv_iinc (v := 3) (lv' := [(1, .int 3), (0, .ref x)]) hx hb dX3_unusedTransaction_26 hl (k := 0) rfl (by decide) (by first | decide | omega) rfl (fun ls hl => ?_)
              refine lv_goto (tgt := 2) hx hb dX3_unusedTransaction_29 (by decide) ?_
              refine lv_iload_n hx hb dX3_unusedTransaction_2 rfl (lv_at hl 0 rfl) ?_
              refine lv_iconst (v := 3) hx hb dX3_unusedTransaction_3 (by decide) ?_
              refine lv_icmp_ge (tgt := 32) hx hb dX3_unusedTransaction_4 (by decide) (fun c4_3 => ?_) (fun c4_3 => ?_)
              · refine mw_throw (cls := "java/lang/IllegalStateException") (names := ["java/lang/RuntimeException", "java/lang/Exception"]) (ik := 63) (is := 175) (ic := 67) hC hM htab hlk hl0 sx_175 (by decide +kernel) (by decide +kernel) mb_222 mb_44 tg_67 tn_67 to_67 hl.1 dX3_unusedTransaction_32 dX3_unusedTransaction_35 dX3_unusedTransaction_36 dX3_unusedTransaction_38 dX3_unusedTransaction_41 (Nat.le_of_ble_eq_true rfl) (Nat.le_of_ble_eq_true rfl) (Nat.le_of_ble_eq_true rfl) (Nat.le_of_ble_eq_true rfl) (Nat.le_of_ble_eq_true rfl) (Nat.le_of_ble_eq_true rfl) ⟨_, rfl, ?_⟩
                exact ⟨rfl, rfl, sh_lt3 c16 c16_1 c16_2⟩
              · exact absurd c4_3 (by decide)
            · have c16_2 := sh_a0 c16_2
              refine lv_aload_n hx hb dX3_unusedTransaction_19 rfl (lv_at hl 1 rfl) ?_
              refine gr_0_3 (index := 26) hC hM kx0 mb_127 dX3_unusedTransaction_20 hK.xT ?_
              refine lv_iload_n hx hb dX3_unusedTransaction_23 rfl (lv_at hl 0 rfl) ?_
              refine al_5 (i := 2) hC hM hK.kT (rfl) (by decide) (by first | decide | omega) (hK.rta (by decide)) dX3_unusedTransaction_24 ?_
              refine mw_aret (r := some (ta 2)) hC hM hr hlk dX3_unusedTransaction_25 (Nat.le_of_ble_eq_true rfl) (Nat.le_of_ble_eq_true rfl) ⟨_, rfl, ?_⟩
              exact ⟨rfl, 2, by decide, rfl, c16_2⟩
        · have c16_1 := sh_a0 c16_1
          refine lv_aload_n hx hb dX3_unusedTransaction_19 rfl (lv_at hl 1 rfl) ?_
          refine gr_0_3 (index := 26) hC hM kx0 mb_127 dX3_unusedTransaction_20 hK.xT ?_
          refine lv_iload_n hx hb dX3_unusedTransaction_23 rfl (lv_at hl 0 rfl) ?_
          refine al_5 (i := 1) hC hM hK.kT (rfl) (by decide) (by first | decide | omega) (hK.rta (by decide)) dX3_unusedTransaction_24 ?_
          refine mw_aret (r := some (ta 1)) hC hM hr hlk dX3_unusedTransaction_25 (Nat.le_of_ble_eq_true rfl) (Nat.le_of_ble_eq_true rfl) ⟨_, rfl, ?_⟩
          exact ⟨rfl, 1, by decide, rfl, c16_1⟩
    · have c16 := sh_a0 c16
      refine lv_aload_n hx hb dX3_unusedTransaction_19 rfl (lv_at hl 1 rfl) ?_
      refine gr_0_3 (index := 26) hC hM kx0 mb_127 dX3_unusedTransaction_20 hK.xT ?_
      refine lv_iload_n hx hb dX3_unusedTransaction_23 rfl (lv_at hl 0 rfl) ?_
      refine al_5 (i := 0) hC hM hK.kT (rfl) (by decide) (by first | decide | omega) (hK.rta (by decide)) dX3_unusedTransaction_24 ?_
      refine mw_aret (r := some (ta 0)) hC hM hr hlk dX3_unusedTransaction_25 (Nat.le_of_ble_eq_true rfl) (Nat.le_of_ble_eq_true rfl) ⟨_, rfl, ?_⟩
      exact ⟨rfl, 0, by decide, rfl, c16⟩

-- StableHeap.activeTransaction
set_option maxHeartbeats 4000000 in
set_option maxRecDepth 100000 in
theorem c_X3_activeTransaction (l : Launch) (hl0 : l.stackTraces = false) (D : va_G) (cs : Nat → ClassId) (h : th_S) (sz : Nat) (x aR aO aH aT : Nat) (rt ta : Nat → Nat) (hK : sh_K x aR aO aH aT rt ta h) (k : Int32) : th_M l yX3_activeTransaction wsX3_activeTransaction { frames := 6, cells := 1, slots := 6, locals := 90 } D cs h sz [.ref x, .int k] (fun v h' => h = h' ∧ ∃ i, sh_tx ta h k i ∧ v = some (.ref (ta i))) (fun E h' => E = "java/util/NoSuchElementException" ∧ h = h' ∧ sh_nt ta h k) := by
  refine mw_ofW (cc := cX3_activeTransaction) (maxL := 3) (ret := (some (.object "StableHeap$Transaction"))) (by decide) rfl (fun w h => List.mem_cons_of_mem _ h) th_cd (Nat.le_of_ble_eq_true rfl) ?_
  intro p e s m below meth c hsz hC hr hlk hnm htab hM ls hl
  have hC : th_C D cs h p m c cX3_activeTransaction 3 s [.ref x, .int k] RX3 := hC
  have hx := hC.1.1
  have hb := hC.1.2.1
  have kx0 : h.1 x = some (0, 0) := hK.kx
  have hl : lv_has ls 3 [(0, .ref x), (1, .int k)] := hl
  refine lv_iconst (v := 0) hx hb dX3_activeTransaction_0 (by decide) ?_
  refine lv_istore_n (lv' := [(2, .int 0), (0, .ref x), (1, .int k)]) hx hb dX3_activeTransaction_1 rfl hl (by decide) rfl (fun ls hl => ?_)
  refine lv_iload_n hx hb dX3_activeTransaction_2 rfl (lv_at hl 0 rfl) ?_
  refine lv_iconst (v := 3) hx hb dX3_activeTransaction_3 (by decide) ?_
  refine lv_icmp_ge (tgt := 45) hx hb dX3_activeTransaction_4 (by decide) (fun c4 => ?_) (fun c4 => ?_)
  · exact absurd c4 (by decide)
  · refine lv_aload_n hx hb dX3_activeTransaction_7 rfl (lv_at hl 1 rfl) ?_
    refine gr_0_3 (index := 26) hC hM kx0 mb_127 dX3_activeTransaction_8 hK.xT ?_
    refine lv_iload_n hx hb dX3_activeTransaction_11 rfl (lv_at hl 0 rfl) ?_
    refine al_5 (i := 0) hC hM hK.kT (rfl) (by decide) (by first | decide | omega) (hK.rta (by decide)) dX3_activeTransaction_12 ?_
    refine mw_callV (As := []) (rest := []) (n := 0) (C := RX2) (T := TX2) (N := 2) (ci := 2) hC hM (c_X2_isActive l hl0 D cs h s.heap.size (ta 0) (hK.kta (by decide))) (cwV 0 hC.1.2.2.2.2 (tb_V mb_169 mb_170 mb_171 mb_39 mb_172) rfl rfl rfl (by decide +kernel) ⟨Nat.le_of_ble_eq_true rfl, Nat.le_of_ble_eq_true rfl⟩) (th_at (h := h) (hK.kta (by decide))) rfl rfl rfl hl.1 (Nat.le_of_ble_eq_true rfl) dX3_activeTransaction_13 ⟨Nat.le_of_ble_eq_true rfl, Nat.le_of_ble_eq_true rfl⟩ (fun E ce q9 g9 H locs hp9 hM hce hcv hcl => ?_) (fun v9 g9 H locs hp9 hM => ?_)
    · exact (hp9.elim fun _ h9 => h9.2.elim)
    obtain ⟨h13, rfl, hp9⟩ := hp9
    obtain ⟨rfl, rfl⟩ := hp9
    refine W.eq (g2 := F0 m 16 ls [.int (if h.2.1 (ta 0) 0 = 0 then 0 else 1)]) rfl ?_
    refine lv_if_eq (tgt := 39) hx hb dX3_activeTransaction_16 (by decide) (fun c16 => ?_) (fun c16 => ?_)
    · have c16 := sh_a0 c16
      refine lv_iinc (v := 1) (lv' := [(2, .int 1), (0, .ref x), (1, .int k)]) hx hb dX3_activeTransaction_39 hl (k := 0) rfl (by decide) (by first | decide | omega) rfl (fun ls hl => ?_)
      refine lv_goto (tgt := 2) hx hb dX3_activeTransaction_42 (by decide) ?_
      refine lv_iload_n hx hb dX3_activeTransaction_2 rfl (lv_at hl 0 rfl) ?_
      refine lv_iconst (v := 3) hx hb dX3_activeTransaction_3 (by decide) ?_
      refine lv_icmp_ge (tgt := 45) hx hb dX3_activeTransaction_4 (by decide) (fun c4_1 => ?_) (fun c4_1 => ?_)
      · exact absurd c4_1 (by decide)
      · refine lv_aload_n hx hb dX3_activeTransaction_7 rfl (lv_at hl 1 rfl) ?_
        refine gr_0_3 (index := 26) hC hM kx0 mb_127 dX3_activeTransaction_8 hK.xT ?_
        refine lv_iload_n hx hb dX3_activeTransaction_11 rfl (lv_at hl 0 rfl) ?_
        refine al_5 (i := 1) hC hM hK.kT (rfl) (by decide) (by first | decide | omega) (hK.rta (by decide)) dX3_activeTransaction_12 ?_
        refine mw_callV (As := []) (rest := []) (n := 0) (C := RX2) (T := TX2) (N := 2) (ci := 2) hC hM (c_X2_isActive l hl0 D cs h H.size (ta 1) (hK.kta (by decide))) (cwV 0 hC.1.2.2.2.2 (tb_V mb_169 mb_170 mb_171 mb_39 mb_172) rfl rfl rfl (by decide +kernel) ⟨Nat.le_of_ble_eq_true rfl, Nat.le_of_ble_eq_true rfl⟩) (th_at (h := h) (hK.kta (by decide))) rfl rfl rfl hl.1 (Nat.le_of_ble_eq_true rfl) dX3_activeTransaction_13 ⟨Nat.le_of_ble_eq_true rfl, Nat.le_of_ble_eq_true rfl⟩ (fun E ce q9 g9 H locs hp9 hM hce hcv hcl => ?_) (fun v9 g9 H locs hp9 hM => ?_)
        · exact (hp9.elim fun _ h9 => h9.2.elim)
        obtain ⟨h13, rfl, hp9⟩ := hp9
        obtain ⟨rfl, rfl⟩ := hp9
        refine W.eq (g2 := F0 m 16 ls [.int (if h.2.1 (ta 1) 0 = 0 then 0 else 1)]) rfl ?_
        refine lv_if_eq (tgt := 39) hx hb dX3_activeTransaction_16 (by decide) (fun c16_1 => ?_) (fun c16_1 => ?_)
        · have c16_1 := sh_a0 c16_1
          refine lv_iinc (v := 2) (lv' := [(2, .int 2), (0, .ref x), (1, .int k)]) hx hb dX3_activeTransaction_39 hl (k := 0) rfl (by decide) (by first | decide | omega) rfl (fun ls hl => ?_)
          refine lv_goto (tgt := 2) hx hb dX3_activeTransaction_42 (by decide) ?_
          refine lv_iload_n hx hb dX3_activeTransaction_2 rfl (lv_at hl 0 rfl) ?_
          refine lv_iconst (v := 3) hx hb dX3_activeTransaction_3 (by decide) ?_
          refine lv_icmp_ge (tgt := 45) hx hb dX3_activeTransaction_4 (by decide) (fun c4_2 => ?_) (fun c4_2 => ?_)
          · exact absurd c4_2 (by decide)
          · refine lv_aload_n hx hb dX3_activeTransaction_7 rfl (lv_at hl 1 rfl) ?_
            refine gr_0_3 (index := 26) hC hM kx0 mb_127 dX3_activeTransaction_8 hK.xT ?_
            refine lv_iload_n hx hb dX3_activeTransaction_11 rfl (lv_at hl 0 rfl) ?_
            refine al_5 (i := 2) hC hM hK.kT (rfl) (by decide) (by first | decide | omega) (hK.rta (by decide)) dX3_activeTransaction_12 ?_
            refine mw_callV (As := []) (rest := []) (n := 0) (C := RX2) (T := TX2) (N := 2) (ci := 2) hC hM (c_X2_isActive l hl0 D cs h H.size (ta 2) (hK.kta (by decide))) (cwV 0 hC.1.2.2.2.2 (tb_V mb_169 mb_170 mb_171 mb_39 mb_172) rfl rfl rfl (by decide +kernel) ⟨Nat.le_of_ble_eq_true rfl, Nat.le_of_ble_eq_true rfl⟩) (th_at (h := h) (hK.kta (by decide))) rfl rfl rfl hl.1 (Nat.le_of_ble_eq_true rfl) dX3_activeTransaction_13 ⟨Nat.le_of_ble_eq_true rfl, Nat.le_of_ble_eq_true rfl⟩ (fun E ce q9 g9 H locs hp9 hM hce hcv hcl => ?_) (fun v9 g9 H locs hp9 hM => ?_)
            · exact (hp9.elim fun _ h9 => h9.2.elim)
            obtain ⟨h13, rfl, hp9⟩ := hp9
            obtain ⟨rfl, rfl⟩ := hp9
            refine W.eq (g2 := F0 m 16 ls [.int (if h.2.1 (ta 2) 0 = 0 then 0 else 1)]) rfl ?_
            refine lv_if_eq (tgt := 39) hx hb dX3_activeTransaction_16 (by decide) (fun c16_2 => ?_) (fun c16_2 => ?_)
            · have c16_2 := sh_a0 c16_2
              refine lv_iinc (v := 3) (lv' := [(2, .int 3), (0, .ref x), (1, .int k)]) hx hb dX3_activeTransaction_39 hl (k := 0) rfl (by decide) (by first | decide | omega) rfl (fun ls hl => ?_)
              refine lv_goto (tgt := 2) hx hb dX3_activeTransaction_42 (by decide) ?_
              refine lv_iload_n hx hb dX3_activeTransaction_2 rfl (lv_at hl 0 rfl) ?_
              refine lv_iconst (v := 3) hx hb dX3_activeTransaction_3 (by decide) ?_
              refine lv_icmp_ge (tgt := 45) hx hb dX3_activeTransaction_4 (by decide) (fun c4_3 => ?_) (fun c4_3 => ?_)
              · refine mw_throwN (Y := "java/lang/RuntimeException") (cls := "java/util/NoSuchElementException") (names := ["java/lang/Exception"]) (ik := 162) (is := 177) (ic := 166) hC hM htab hlk hl0 sx_177 (by decide +kernel) (by decide +kernel) (by decide +kernel) mb_311 mb_46 tg_166 tn_166 to_166 hl.1 dX3_activeTransaction_45 dX3_activeTransaction_48 dX3_activeTransaction_49 dX3_activeTransaction_51 dX3_activeTransaction_54 (Nat.le_of_ble_eq_true rfl) (Nat.le_of_ble_eq_true rfl) (Nat.le_of_ble_eq_true rfl) (Nat.le_of_ble_eq_true rfl) (Nat.le_of_ble_eq_true rfl) (Nat.le_of_ble_eq_true rfl) ⟨_, rfl, ?_⟩
                refine ⟨rfl, rfl, sh_lt3 ?_ ?_ ?_⟩ <;> first | exact Or.inl (by assumption) | exact Or.inr (by assumption)
              · exact absurd c4_3 (by decide)
            · have c16_2 := sh_a1 c16_2
              refine lv_aload_n hx hb dX3_activeTransaction_19 rfl (lv_at hl 1 rfl) ?_
              refine gr_0_3 (index := 26) hC hM kx0 mb_127 dX3_activeTransaction_20 hK.xT ?_
              refine lv_iload_n hx hb dX3_activeTransaction_23 rfl (lv_at hl 0 rfl) ?_
              refine al_5 (i := 2) hC hM hK.kT (rfl) (by decide) (by first | decide | omega) (hK.rta (by decide)) dX3_activeTransaction_24 ?_
              refine gi_1_0 (index := 43) hC hM (hK.kta (by decide)) mb_117 dX3_activeTransaction_25 ?_
              refine lv_iload_n hx hb dX3_activeTransaction_28 rfl (lv_at hl 2 rfl) ?_
              refine lv_icmp_ne (tgt := 39) hx hb dX3_activeTransaction_29 (by decide) (fun c29 => ?_) (fun c29 => ?_)
              · refine lv_iinc (v := 3) (lv' := [(2, .int 3), (0, .ref x), (1, .int k)]) hx hb dX3_activeTransaction_39 hl (k := 0) rfl (by decide) (by first | decide | omega) rfl (fun ls hl => ?_)
                refine lv_goto (tgt := 2) hx hb dX3_activeTransaction_42 (by decide) ?_
                refine lv_iload_n hx hb dX3_activeTransaction_2 rfl (lv_at hl 0 rfl) ?_
                refine lv_iconst (v := 3) hx hb dX3_activeTransaction_3 (by decide) ?_
                refine lv_icmp_ge (tgt := 45) hx hb dX3_activeTransaction_4 (by decide) (fun c4_3 => ?_) (fun c4_3 => ?_)
                · refine mw_throwN (Y := "java/lang/RuntimeException") (cls := "java/util/NoSuchElementException") (names := ["java/lang/Exception"]) (ik := 162) (is := 177) (ic := 166) hC hM htab hlk hl0 sx_177 (by decide +kernel) (by decide +kernel) (by decide +kernel) mb_311 mb_46 tg_166 tn_166 to_166 hl.1 dX3_activeTransaction_45 dX3_activeTransaction_48 dX3_activeTransaction_49 dX3_activeTransaction_51 dX3_activeTransaction_54 (Nat.le_of_ble_eq_true rfl) (Nat.le_of_ble_eq_true rfl) (Nat.le_of_ble_eq_true rfl) (Nat.le_of_ble_eq_true rfl) (Nat.le_of_ble_eq_true rfl) (Nat.le_of_ble_eq_true rfl) ⟨_, rfl, ?_⟩
                  refine ⟨rfl, rfl, sh_lt3 ?_ ?_ ?_⟩ <;> first | exact Or.inl (by assumption) | exact Or.inr (by assumption)
                · exact absurd c4_3 (by decide)
              · refine lv_aload_n hx hb dX3_activeTransaction_32 rfl (lv_at hl 1 rfl) ?_
                refine gr_0_3 (index := 26) hC hM kx0 mb_127 dX3_activeTransaction_33 hK.xT ?_
                refine lv_iload_n hx hb dX3_activeTransaction_36 rfl (lv_at hl 0 rfl) ?_
                refine al_5 (i := 2) hC hM hK.kT (rfl) (by decide) (by first | decide | omega) (hK.rta (by decide)) dX3_activeTransaction_37 ?_
                refine mw_aret (r := some (ta 2)) hC hM hr hlk dX3_activeTransaction_38 (Nat.le_of_ble_eq_true rfl) (Nat.le_of_ble_eq_true rfl) ⟨_, rfl, ?_⟩
                exact ⟨rfl, 2, ⟨by decide, c16_2, by assumption⟩, rfl⟩
        · have c16_1 := sh_a1 c16_1
          refine lv_aload_n hx hb dX3_activeTransaction_19 rfl (lv_at hl 1 rfl) ?_
          refine gr_0_3 (index := 26) hC hM kx0 mb_127 dX3_activeTransaction_20 hK.xT ?_
          refine lv_iload_n hx hb dX3_activeTransaction_23 rfl (lv_at hl 0 rfl) ?_
          refine al_5 (i := 1) hC hM hK.kT (rfl) (by decide) (by first | decide | omega) (hK.rta (by decide)) dX3_activeTransaction_24 ?_
          refine gi_1_0 (index := 43) hC hM (hK.kta (by decide)) mb_117 dX3_activeTransaction_25 ?_
          refine lv_iload_n hx hb dX3_activeTransaction_28 rfl (lv_at hl 2 rfl) ?_
          refine lv_icmp_ne (tgt := 39) hx hb dX3_activeTransaction_29 (by decide) (fun c29 => ?_) (fun c29 => ?_)
          · refine lv_iinc (v := 2) (lv' := [(2, .int 2), (0, .ref x), (1, .int k)]) hx hb dX3_activeTransaction_39 hl (k := 0) rfl (by decide) (by first | decide | omega) rfl (fun ls hl => ?_)
            refine lv_goto (tgt := 2) hx hb dX3_activeTransaction_42 (by decide) ?_
            refine lv_iload_n hx hb dX3_activeTransaction_2 rfl (lv_at hl 0 rfl) ?_
            refine lv_iconst (v := 3) hx hb dX3_activeTransaction_3 (by decide) ?_
            refine lv_icmp_ge (tgt := 45) hx hb dX3_activeTransaction_4 (by decide) (fun c4_2 => ?_) (fun c4_2 => ?_)
            · exact absurd c4_2 (by decide)
            · refine lv_aload_n hx hb dX3_activeTransaction_7 rfl (lv_at hl 1 rfl) ?_
              refine gr_0_3 (index := 26) hC hM kx0 mb_127 dX3_activeTransaction_8 hK.xT ?_
              refine lv_iload_n hx hb dX3_activeTransaction_11 rfl (lv_at hl 0 rfl) ?_
              refine al_5 (i := 2) hC hM hK.kT (rfl) (by decide) (by first | decide | omega) (hK.rta (by decide)) dX3_activeTransaction_12 ?_
              refine mw_callV (As := []) (rest := []) (n := 0) (C := RX2) (T := TX2) (N := 2) (ci := 2) hC hM (c_X2_isActive l hl0 D cs h H.size (ta 2) (hK.kta (by decide))) (cwV 0 hC.1.2.2.2.2 (tb_V mb_169 mb_170 mb_171 mb_39 mb_172) rfl rfl rfl (by decide +kernel) ⟨Nat.le_of_ble_eq_true rfl, Nat.le_of_ble_eq_true rfl⟩) (th_at (h := h) (hK.kta (by decide))) rfl rfl rfl hl.1 (Nat.le_of_ble_eq_true rfl) dX3_activeTransaction_13 ⟨Nat.le_of_ble_eq_true rfl, Nat.le_of_ble_eq_true rfl⟩ (fun E ce q9 g9 H locs hp9 hM hce hcv hcl => ?_) (fun v9 g9 H locs hp9 hM => ?_)
              · exact (hp9.elim fun _ h9 => h9.2.elim)
              obtain ⟨h13, rfl, hp9⟩ := hp9
              obtain ⟨rfl, rfl⟩ := hp9
              refine W.eq (g2 := F0 m 16 ls [.int (if h.2.1 (ta 2) 0 = 0 then 0 else 1)]) rfl ?_
              refine lv_if_eq (tgt := 39) hx hb dX3_activeTransaction_16 (by decide) (fun c16_2 => ?_) (fun c16_2 => ?_)
              · have c16_2 := sh_a0 c16_2
                refine lv_iinc (v := 3) (lv' := [(2, .int 3), (0, .ref x), (1, .int k)]) hx hb dX3_activeTransaction_39 hl (k := 0) rfl (by decide) (by first | decide | omega) rfl (fun ls hl => ?_)
                refine lv_goto (tgt := 2) hx hb dX3_activeTransaction_42 (by decide) ?_
                refine lv_iload_n hx hb dX3_activeTransaction_2 rfl (lv_at hl 0 rfl) ?_
                refine lv_iconst (v := 3) hx hb dX3_activeTransaction_3 (by decide) ?_
                refine lv_icmp_ge (tgt := 45) hx hb dX3_activeTransaction_4 (by decide) (fun c4_3 => ?_) (fun c4_3 => ?_)
                · refine mw_throwN (Y := "java/lang/RuntimeException") (cls := "java/util/NoSuchElementException") (names := ["java/lang/Exception"]) (ik := 162) (is := 177) (ic := 166) hC hM htab hlk hl0 sx_177 (by decide +kernel) (by decide +kernel) (by decide +kernel) mb_311 mb_46 tg_166 tn_166 to_166 hl.1 dX3_activeTransaction_45 dX3_activeTransaction_48 dX3_activeTransaction_49 dX3_activeTransaction_51 dX3_activeTransaction_54 (Nat.le_of_ble_eq_true rfl) (Nat.le_of_ble_eq_true rfl) (Nat.le_of_ble_eq_true rfl) (Nat.le_of_ble_eq_true rfl) (Nat.le_of_ble_eq_true rfl) (Nat.le_of_ble_eq_true rfl) ⟨_, rfl, ?_⟩
                  refine ⟨rfl, rfl, sh_lt3 ?_ ?_ ?_⟩ <;> first | exact Or.inl (by assumption) | exact Or.inr (by assumption)
                · exact absurd c4_3 (by decide)
              · have c16_2 := sh_a1 c16_2
                refine lv_aload_n hx hb dX3_activeTransaction_19 rfl (lv_at hl 1 rfl) ?_
                refine gr_0_3 (index := 26) hC hM kx0 mb_127 dX3_activeTransaction_20 hK.xT ?_
                refine lv_iload_n hx hb dX3_activeTransaction_23 rfl (lv_at hl 0 rfl) ?_
                refine al_5 (i := 2) hC hM hK.kT (rfl) (by decide) (by first | decide | omega) (hK.rta (by decide)) dX3_activeTransaction_24 ?_
                refine gi_1_0 (index := 43) hC hM (hK.kta (by decide)) mb_117 dX3_activeTransaction_25 ?_
                refine lv_iload_n hx hb dX3_activeTransaction_28 rfl (lv_at hl 2 rfl) ?_
                refine lv_icmp_ne (tgt := 39) hx hb dX3_activeTransaction_29 (by decide) (fun c29_1 => ?_) (fun c29_1 => ?_)
                · refine lv_iinc (v := 3) (lv' := [(2, .int 3), (0, .ref x), (1, .int k)]) hx hb dX3_activeTransaction_39 hl (k := 0) rfl (by decide) (by first | decide | omega) rfl (fun ls hl => ?_)
                  refine lv_goto (tgt := 2) hx hb dX3_activeTransaction_42 (by decide) ?_
                  refine lv_iload_n hx hb dX3_activeTransaction_2 rfl (lv_at hl 0 rfl) ?_
                  refine lv_iconst (v := 3) hx hb dX3_activeTransaction_3 (by decide) ?_
                  refine lv_icmp_ge (tgt := 45) hx hb dX3_activeTransaction_4 (by decide) (fun c4_3 => ?_) (fun c4_3 => ?_)
                  · refine mw_throwN (Y := "java/lang/RuntimeException") (cls := "java/util/NoSuchElementException") (names := ["java/lang/Exception"]) (ik := 162) (is := 177) (ic := 166) hC hM htab hlk hl0 sx_177 (by decide +kernel) (by decide +kernel) (by decide +kernel) mb_311 mb_46 tg_166 tn_166 to_166 hl.1 dX3_activeTransaction_45 dX3_activeTransaction_48 dX3_activeTransaction_49 dX3_activeTransaction_51 dX3_activeTransaction_54 (Nat.le_of_ble_eq_true rfl) (Nat.le_of_ble_eq_true rfl) (Nat.le_of_ble_eq_true rfl) (Nat.le_of_ble_eq_true rfl) (Nat.le_of_ble_eq_true rfl) (Nat.le_of_ble_eq_true rfl) ⟨_, rfl, ?_⟩
                    refine ⟨rfl, rfl, sh_lt3 ?_ ?_ ?_⟩ <;> first | exact Or.inl (by assumption) | exact Or.inr (by assumption)
                  · exact absurd c4_3 (by decide)
                · refine lv_aload_n hx hb dX3_activeTransaction_32 rfl (lv_at hl 1 rfl) ?_
                  refine gr_0_3 (index := 26) hC hM kx0 mb_127 dX3_activeTransaction_33 hK.xT ?_
                  refine lv_iload_n hx hb dX3_activeTransaction_36 rfl (lv_at hl 0 rfl) ?_
                  refine al_5 (i := 2) hC hM hK.kT (rfl) (by decide) (by first | decide | omega) (hK.rta (by decide)) dX3_activeTransaction_37 ?_
                  refine mw_aret (r := some (ta 2)) hC hM hr hlk dX3_activeTransaction_38 (Nat.le_of_ble_eq_true rfl) (Nat.le_of_ble_eq_true rfl) ⟨_, rfl, ?_⟩
                  exact ⟨rfl, 2, ⟨by decide, c16_2, by assumption⟩, rfl⟩
          · refine lv_aload_n hx hb dX3_activeTransaction_32 rfl (lv_at hl 1 rfl) ?_
            refine gr_0_3 (index := 26) hC hM kx0 mb_127 dX3_activeTransaction_33 hK.xT ?_
            refine lv_iload_n hx hb dX3_activeTransaction_36 rfl (lv_at hl 0 rfl) ?_
            refine al_5 (i := 1) hC hM hK.kT (rfl) (by decide) (by first | decide | omega) (hK.rta (by decide)) dX3_activeTransaction_37 ?_
            refine mw_aret (r := some (ta 1)) hC hM hr hlk dX3_activeTransaction_38 (Nat.le_of_ble_eq_true rfl) (Nat.le_of_ble_eq_true rfl) ⟨_, rfl, ?_⟩
            exact ⟨rfl, 1, ⟨by decide, c16_1, by assumption⟩, rfl⟩
    · have c16 := sh_a1 c16
      refine lv_aload_n hx hb dX3_activeTransaction_19 rfl (lv_at hl 1 rfl) ?_
      refine gr_0_3 (index := 26) hC hM kx0 mb_127 dX3_activeTransaction_20 hK.xT ?_
      refine lv_iload_n hx hb dX3_activeTransaction_23 rfl (lv_at hl 0 rfl) ?_
      refine al_5 (i := 0) hC hM hK.kT (rfl) (by decide) (by first | decide | omega) (hK.rta (by decide)) dX3_activeTransaction_24 ?_
      refine gi_1_0 (index := 43) hC hM (hK.kta (by decide)) mb_117 dX3_activeTransaction_25 ?_
      refine lv_iload_n hx hb dX3_activeTransaction_28 rfl (lv_at hl 2 rfl) ?_
      refine lv_icmp_ne (tgt := 39) hx hb dX3_activeTransaction_29 (by decide) (fun c29 => ?_) (fun c29 => ?_)
      · refine lv_iinc (v := 1) (lv' := [(2, .int 1), (0, .ref x), (1, .int k)]) hx hb dX3_activeTransaction_39 hl (k := 0) rfl (by decide) (by first | decide | omega) rfl (fun ls hl => ?_)
        refine lv_goto (tgt := 2) hx hb dX3_activeTransaction_42 (by decide) ?_
        refine lv_iload_n hx hb dX3_activeTransaction_2 rfl (lv_at hl 0 rfl) ?_
        refine lv_iconst (v := 3) hx hb dX3_activeTransaction_3 (by decide) ?_
        refine lv_icmp_ge (tgt := 45) hx hb dX3_activeTransaction_4 (by decide) (fun c4_1 => ?_) (fun c4_1 => ?_)
        · exact absurd c4_1 (by decide)
        · refine lv_aload_n hx hb dX3_activeTransaction_7 rfl (lv_at hl 1 rfl) ?_
          refine gr_0_3 (index := 26) hC hM kx0 mb_127 dX3_activeTransaction_8 hK.xT ?_
          refine lv_iload_n hx hb dX3_activeTransaction_11 rfl (lv_at hl 0 rfl) ?_
          refine al_5 (i := 1) hC hM hK.kT (rfl) (by decide) (by first | decide | omega) (hK.rta (by decide)) dX3_activeTransaction_12 ?_
          refine mw_callV (As := []) (rest := []) (n := 0) (C := RX2) (T := TX2) (N := 2) (ci := 2) hC hM (c_X2_isActive l hl0 D cs h H.size (ta 1) (hK.kta (by decide))) (cwV 0 hC.1.2.2.2.2 (tb_V mb_169 mb_170 mb_171 mb_39 mb_172) rfl rfl rfl (by decide +kernel) ⟨Nat.le_of_ble_eq_true rfl, Nat.le_of_ble_eq_true rfl⟩) (th_at (h := h) (hK.kta (by decide))) rfl rfl rfl hl.1 (Nat.le_of_ble_eq_true rfl) dX3_activeTransaction_13 ⟨Nat.le_of_ble_eq_true rfl, Nat.le_of_ble_eq_true rfl⟩ (fun E ce q9 g9 H locs hp9 hM hce hcv hcl => ?_) (fun v9 g9 H locs hp9 hM => ?_)
          · exact (hp9.elim fun _ h9 => h9.2.elim)
          obtain ⟨h13, rfl, hp9⟩ := hp9
          obtain ⟨rfl, rfl⟩ := hp9
          refine W.eq (g2 := F0 m 16 ls [.int (if h.2.1 (ta 1) 0 = 0 then 0 else 1)]) rfl ?_
          refine lv_if_eq (tgt := 39) hx hb dX3_activeTransaction_16 (by decide) (fun c16_1 => ?_) (fun c16_1 => ?_)
          · have c16_1 := sh_a0 c16_1
            refine lv_iinc (v := 2) (lv' := [(2, .int 2), (0, .ref x), (1, .int k)]) hx hb dX3_activeTransaction_39 hl (k := 0) rfl (by decide) (by first | decide | omega) rfl (fun ls hl => ?_)
            refine lv_goto (tgt := 2) hx hb dX3_activeTransaction_42 (by decide) ?_
            refine lv_iload_n hx hb dX3_activeTransaction_2 rfl (lv_at hl 0 rfl) ?_
            refine lv_iconst (v := 3) hx hb dX3_activeTransaction_3 (by decide) ?_
            refine lv_icmp_ge (tgt := 45) hx hb dX3_activeTransaction_4 (by decide) (fun c4_2 => ?_) (fun c4_2 => ?_)
            · exact absurd c4_2 (by decide)
            · refine lv_aload_n hx hb dX3_activeTransaction_7 rfl (lv_at hl 1 rfl) ?_
              refine gr_0_3 (index := 26) hC hM kx0 mb_127 dX3_activeTransaction_8 hK.xT ?_
              refine lv_iload_n hx hb dX3_activeTransaction_11 rfl (lv_at hl 0 rfl) ?_
              refine al_5 (i := 2) hC hM hK.kT (rfl) (by decide) (by first | decide | omega) (hK.rta (by decide)) dX3_activeTransaction_12 ?_
              refine mw_callV (As := []) (rest := []) (n := 0) (C := RX2) (T := TX2) (N := 2) (ci := 2) hC hM (c_X2_isActive l hl0 D cs h H.size (ta 2) (hK.kta (by decide))) (cwV 0 hC.1.2.2.2.2 (tb_V mb_169 mb_170 mb_171 mb_39 mb_172) rfl rfl rfl (by decide +kernel) ⟨Nat.le_of_ble_eq_true rfl, Nat.le_of_ble_eq_true rfl⟩) (th_at (h := h) (hK.kta (by decide))) rfl rfl rfl hl.1 (Nat.le_of_ble_eq_true rfl) dX3_activeTransaction_13 ⟨Nat.le_of_ble_eq_true rfl, Nat.le_of_ble_eq_true rfl⟩ (fun E ce q9 g9 H locs hp9 hM hce hcv hcl => ?_) (fun v9 g9 H locs hp9 hM => ?_)
              · exact (hp9.elim fun _ h9 => h9.2.elim)
              obtain ⟨h13, rfl, hp9⟩ := hp9
              obtain ⟨rfl, rfl⟩ := hp9
              refine W.eq (g2 := F0 m 16 ls [.int (if h.2.1 (ta 2) 0 = 0 then 0 else 1)]) rfl ?_
              refine lv_if_eq (tgt := 39) hx hb dX3_activeTransaction_16 (by decide) (fun c16_2 => ?_) (fun c16_2 => ?_)
              · have c16_2 := sh_a0 c16_2
                refine lv_iinc (v := 3) (lv' := [(2, .int 3), (0, .ref x), (1, .int k)]) hx hb dX3_activeTransaction_39 hl (k := 0) rfl (by decide) (by first | decide | omega) rfl (fun ls hl => ?_)
                refine lv_goto (tgt := 2) hx hb dX3_activeTransaction_42 (by decide) ?_
                refine lv_iload_n hx hb dX3_activeTransaction_2 rfl (lv_at hl 0 rfl) ?_
                refine lv_iconst (v := 3) hx hb dX3_activeTransaction_3 (by decide) ?_
                refine lv_icmp_ge (tgt := 45) hx hb dX3_activeTransaction_4 (by decide) (fun c4_3 => ?_) (fun c4_3 => ?_)
                · refine mw_throwN (Y := "java/lang/RuntimeException") (cls := "java/util/NoSuchElementException") (names := ["java/lang/Exception"]) (ik := 162) (is := 177) (ic := 166) hC hM htab hlk hl0 sx_177 (by decide +kernel) (by decide +kernel) (by decide +kernel) mb_311 mb_46 tg_166 tn_166 to_166 hl.1 dX3_activeTransaction_45 dX3_activeTransaction_48 dX3_activeTransaction_49 dX3_activeTransaction_51 dX3_activeTransaction_54 (Nat.le_of_ble_eq_true rfl) (Nat.le_of_ble_eq_true rfl) (Nat.le_of_ble_eq_true rfl) (Nat.le_of_ble_eq_true rfl) (Nat.le_of_ble_eq_true rfl) (Nat.le_of_ble_eq_true rfl) ⟨_, rfl, ?_⟩
                  refine ⟨rfl, rfl, sh_lt3 ?_ ?_ ?_⟩ <;> first | exact Or.inl (by assumption) | exact Or.inr (by assumption)
                · exact absurd c4_3 (by decide)
              · have c16_2 := sh_a1 c16_2
                refine lv_aload_n hx hb dX3_activeTransaction_19 rfl (lv_at hl 1 rfl) ?_
                refine gr_0_3 (index := 26) hC hM kx0 mb_127 dX3_activeTransaction_20 hK.xT ?_
                refine lv_iload_n hx hb dX3_activeTransaction_23 rfl (lv_at hl 0 rfl) ?_
                refine al_5 (i := 2) hC hM hK.kT (rfl) (by decide) (by first | decide | omega) (hK.rta (by decide)) dX3_activeTransaction_24 ?_
                refine gi_1_0 (index := 43) hC hM (hK.kta (by decide)) mb_117 dX3_activeTransaction_25 ?_
                refine lv_iload_n hx hb dX3_activeTransaction_28 rfl (lv_at hl 2 rfl) ?_
                refine lv_icmp_ne (tgt := 39) hx hb dX3_activeTransaction_29 (by decide) (fun c29_1 => ?_) (fun c29_1 => ?_)
                · refine lv_iinc (v := 3) (lv' := [(2, .int 3), (0, .ref x), (1, .int k)]) hx hb dX3_activeTransaction_39 hl (k := 0) rfl (by decide) (by first | decide | omega) rfl (fun ls hl => ?_)
                  refine lv_goto (tgt := 2) hx hb dX3_activeTransaction_42 (by decide) ?_
                  refine lv_iload_n hx hb dX3_activeTransaction_2 rfl (lv_at hl 0 rfl) ?_
                  refine lv_iconst (v := 3) hx hb dX3_activeTransaction_3 (by decide) ?_
                  refine lv_icmp_ge (tgt := 45) hx hb dX3_activeTransaction_4 (by decide) (fun c4_3 => ?_) (fun c4_3 => ?_)
                  · refine mw_throwN (Y := "java/lang/RuntimeException") (cls := "java/util/NoSuchElementException") (names := ["java/lang/Exception"]) (ik := 162) (is := 177) (ic := 166) hC hM htab hlk hl0 sx_177 (by decide +kernel) (by decide +kernel) (by decide +kernel) mb_311 mb_46 tg_166 tn_166 to_166 hl.1 dX3_activeTransaction_45 dX3_activeTransaction_48 dX3_activeTransaction_49 dX3_activeTransaction_51 dX3_activeTransaction_54 (Nat.le_of_ble_eq_true rfl) (Nat.le_of_ble_eq_true rfl) (Nat.le_of_ble_eq_true rfl) (Nat.le_of_ble_eq_true rfl) (Nat.le_of_ble_eq_true rfl) (Nat.le_of_ble_eq_true rfl) ⟨_, rfl, ?_⟩
                    refine ⟨rfl, rfl, sh_lt3 ?_ ?_ ?_⟩ <;> first | exact Or.inl (by assumption) | exact Or.inr (by assumption)
                  · exact absurd c4_3 (by decide)
                · refine lv_aload_n hx hb dX3_activeTransaction_32 rfl (lv_at hl 1 rfl) ?_
                  refine gr_0_3 (index := 26) hC hM kx0 mb_127 dX3_activeTransaction_33 hK.xT ?_
                  refine lv_iload_n hx hb dX3_activeTransaction_36 rfl (lv_at hl 0 rfl) ?_
                  refine al_5 (i := 2) hC hM hK.kT (rfl) (by decide) (by first | decide | omega) (hK.rta (by decide)) dX3_activeTransaction_37 ?_
                  refine mw_aret (r := some (ta 2)) hC hM hr hlk dX3_activeTransaction_38 (Nat.le_of_ble_eq_true rfl) (Nat.le_of_ble_eq_true rfl) ⟨_, rfl, ?_⟩
                  exact ⟨rfl, 2, ⟨by decide, c16_2, by assumption⟩, rfl⟩
          · have c16_1 := sh_a1 c16_1
            refine lv_aload_n hx hb dX3_activeTransaction_19 rfl (lv_at hl 1 rfl) ?_
            refine gr_0_3 (index := 26) hC hM kx0 mb_127 dX3_activeTransaction_20 hK.xT ?_
            refine lv_iload_n hx hb dX3_activeTransaction_23 rfl (lv_at hl 0 rfl) ?_
            refine al_5 (i := 1) hC hM hK.kT (rfl) (by decide) (by first | decide | omega) (hK.rta (by decide)) dX3_activeTransaction_24 ?_
            refine gi_1_0 (index := 43) hC hM (hK.kta (by decide)) mb_117 dX3_activeTransaction_25 ?_
            refine lv_iload_n hx hb dX3_activeTransaction_28 rfl (lv_at hl 2 rfl) ?_
            refine lv_icmp_ne (tgt := 39) hx hb dX3_activeTransaction_29 (by decide) (fun c29_1 => ?_) (fun c29_1 => ?_)
            · refine lv_iinc (v := 2) (lv' := [(2, .int 2), (0, .ref x), (1, .int k)]) hx hb dX3_activeTransaction_39 hl (k := 0) rfl (by decide) (by first | decide | omega) rfl (fun ls hl => ?_)
              refine lv_goto (tgt := 2) hx hb dX3_activeTransaction_42 (by decide) ?_
              refine lv_iload_n hx hb dX3_activeTransaction_2 rfl (lv_at hl 0 rfl) ?_
              refine lv_iconst (v := 3) hx hb dX3_activeTransaction_3 (by decide) ?_
              refine lv_icmp_ge (tgt := 45) hx hb dX3_activeTransaction_4 (by decide) (fun c4_2 => ?_) (fun c4_2 => ?_)
              · exact absurd c4_2 (by decide)
              · refine lv_aload_n hx hb dX3_activeTransaction_7 rfl (lv_at hl 1 rfl) ?_
                refine gr_0_3 (index := 26) hC hM kx0 mb_127 dX3_activeTransaction_8 hK.xT ?_
                refine lv_iload_n hx hb dX3_activeTransaction_11 rfl (lv_at hl 0 rfl) ?_
                refine al_5 (i := 2) hC hM hK.kT (rfl) (by decide) (by first | decide | omega) (hK.rta (by decide)) dX3_activeTransaction_12 ?_
                refine mw_callV (As := []) (rest := []) (n := 0) (C := RX2) (T := TX2) (N := 2) (ci := 2) hC hM (c_X2_isActive l hl0 D cs h H.size (ta 2) (hK.kta (by decide))) (cwV 0 hC.1.2.2.2.2 (tb_V mb_169 mb_170 mb_171 mb_39 mb_172) rfl rfl rfl (by decide +kernel) ⟨Nat.le_of_ble_eq_true rfl, Nat.le_of_ble_eq_true rfl⟩) (th_at (h := h) (hK.kta (by decide))) rfl rfl rfl hl.1 (Nat.le_of_ble_eq_true rfl) dX3_activeTransaction_13 ⟨Nat.le_of_ble_eq_true rfl, Nat.le_of_ble_eq_true rfl⟩ (fun E ce q9 g9 H locs hp9 hM hce hcv hcl => ?_) (fun v9 g9 H locs hp9 hM => ?_)
                · exact (hp9.elim fun _ h9 => h9.2.elim)
                obtain ⟨h13, rfl, hp9⟩ := hp9
                obtain ⟨rfl, rfl⟩ := hp9
                refine W.eq (g2 := F0 m 16 ls [.int (if h.2.1 (ta 2) 0 = 0 then 0 else 1)]) rfl ?_
                refine lv_if_eq (tgt := 39) hx hb dX3_activeTransaction_16 (by decide) (fun c16_2 => ?_) (fun c16_2 => ?_)
                · have c16_2 := sh_a0 c16_2
                  refine lv_iinc (v := 3) (lv' := [(2, .int 3), (0, .ref x), (1, .int k)]) hx hb dX3_activeTransaction_39 hl (k := 0) rfl (by decide) (by first | decide | omega) rfl (fun ls hl => ?_)
                  refine lv_goto (tgt := 2) hx hb dX3_activeTransaction_42 (by decide) ?_
                  refine lv_iload_n hx hb dX3_activeTransaction_2 rfl (lv_at hl 0 rfl) ?_
                  refine lv_iconst (v := 3) hx hb dX3_activeTransaction_3 (by decide) ?_
                  refine lv_icmp_ge (tgt := 45) hx hb dX3_activeTransaction_4 (by decide) (fun c4_3 => ?_) (fun c4_3 => ?_)
                  · refine mw_throwN (Y := "java/lang/RuntimeException") (cls := "java/util/NoSuchElementException") (names := ["java/lang/Exception"]) (ik := 162) (is := 177) (ic := 166) hC hM htab hlk hl0 sx_177 (by decide +kernel) (by decide +kernel) (by decide +kernel) mb_311 mb_46 tg_166 tn_166 to_166 hl.1 dX3_activeTransaction_45 dX3_activeTransaction_48 dX3_activeTransaction_49 dX3_activeTransaction_51 dX3_activeTransaction_54 (Nat.le_of_ble_eq_true rfl) (Nat.le_of_ble_eq_true rfl) (Nat.le_of_ble_eq_true rfl) (Nat.le_of_ble_eq_true rfl) (Nat.le_of_ble_eq_true rfl) (Nat.le_of_ble_eq_true rfl) ⟨_, rfl, ?_⟩
                    refine ⟨rfl, rfl, sh_lt3 ?_ ?_ ?_⟩ <;> first | exact Or.inl (by assumption) | exact Or.inr (by assumption)
                  · exact absurd c4_3 (by decide)
                · have c16_2 := sh_a1 c16_2
                  refine lv_aload_n hx hb dX3_activeTransaction_19 rfl (lv_at hl 1 rfl) ?_
                  refine gr_0_3 (index := 26) hC hM kx0 mb_127 dX3_activeTransaction_20 hK.xT ?_
                  refine lv_iload_n hx hb dX3_activeTransaction_23 rfl (lv_at hl 0 rfl) ?_
                  refine al_5 (i := 2) hC hM hK.kT (rfl) (by decide) (by first | decide | omega) (hK.rta (by decide)) dX3_activeTransaction_24 ?_
                  refine gi_1_0 (index := 43) hC hM (hK.kta (by decide)) mb_117 dX3_activeTransaction_25 ?_
                  refine lv_iload_n hx hb dX3_activeTransaction_28 rfl (lv_at hl 2 rfl) ?_
                  refine lv_icmp_ne (tgt := 39) hx hb dX3_activeTransaction_29 (by decide) (fun c29_2 => ?_) (fun c29_2 => ?_)
                  · refine lv_iinc (v := 3) (lv' := [(2, .int 3), (0, .ref x), (1, .int k)]) hx hb dX3_activeTransaction_39 hl (k := 0) rfl (by decide) (by first | decide | omega) rfl (fun ls hl => ?_)
                    refine lv_goto (tgt := 2) hx hb dX3_activeTransaction_42 (by decide) ?_
                    refine lv_iload_n hx hb dX3_activeTransaction_2 rfl (lv_at hl 0 rfl) ?_
                    refine lv_iconst (v := 3) hx hb dX3_activeTransaction_3 (by decide) ?_
                    refine lv_icmp_ge (tgt := 45) hx hb dX3_activeTransaction_4 (by decide) (fun c4_3 => ?_) (fun c4_3 => ?_)
                    · refine mw_throwN (Y := "java/lang/RuntimeException") (cls := "java/util/NoSuchElementException") (names := ["java/lang/Exception"]) (ik := 162) (is := 177) (ic := 166) hC hM htab hlk hl0 sx_177 (by decide +kernel) (by decide +kernel) (by decide +kernel) mb_311 mb_46 tg_166 tn_166 to_166 hl.1 dX3_activeTransaction_45 dX3_activeTransaction_48 dX3_activeTransaction_49 dX3_activeTransaction_51 dX3_activeTransaction_54 (Nat.le_of_ble_eq_true rfl) (Nat.le_of_ble_eq_true rfl) (Nat.le_of_ble_eq_true rfl) (Nat.le_of_ble_eq_true rfl) (Nat.le_of_ble_eq_true rfl) (Nat.le_of_ble_eq_true rfl) ⟨_, rfl, ?_⟩
                      refine ⟨rfl, rfl, sh_lt3 ?_ ?_ ?_⟩ <;> first | exact Or.inl (by assumption) | exact Or.inr (by assumption)
                    · exact absurd c4_3 (by decide)
                  · refine lv_aload_n hx hb dX3_activeTransaction_32 rfl (lv_at hl 1 rfl) ?_
                    refine gr_0_3 (index := 26) hC hM kx0 mb_127 dX3_activeTransaction_33 hK.xT ?_
                    refine lv_iload_n hx hb dX3_activeTransaction_36 rfl (lv_at hl 0 rfl) ?_
                    refine al_5 (i := 2) hC hM hK.kT (rfl) (by decide) (by first | decide | omega) (hK.rta (by decide)) dX3_activeTransaction_37 ?_
                    refine mw_aret (r := some (ta 2)) hC hM hr hlk dX3_activeTransaction_38 (Nat.le_of_ble_eq_true rfl) (Nat.le_of_ble_eq_true rfl) ⟨_, rfl, ?_⟩
                    exact ⟨rfl, 2, ⟨by decide, c16_2, by assumption⟩, rfl⟩
            · refine lv_aload_n hx hb dX3_activeTransaction_32 rfl (lv_at hl 1 rfl) ?_
              refine gr_0_3 (index := 26) hC hM kx0 mb_127 dX3_activeTransaction_33 hK.xT ?_
              refine lv_iload_n hx hb dX3_activeTransaction_36 rfl (lv_at hl 0 rfl) ?_
              refine al_5 (i := 1) hC hM hK.kT (rfl) (by decide) (by first | decide | omega) (hK.rta (by decide)) dX3_activeTransaction_37 ?_
              refine mw_aret (r := some (ta 1)) hC hM hr hlk dX3_activeTransaction_38 (Nat.le_of_ble_eq_true rfl) (Nat.le_of_ble_eq_true rfl) ⟨_, rfl, ?_⟩
              exact ⟨rfl, 1, ⟨by decide, c16_1, by assumption⟩, rfl⟩
      · refine lv_aload_n hx hb dX3_activeTransaction_32 rfl (lv_at hl 1 rfl) ?_
        refine gr_0_3 (index := 26) hC hM kx0 mb_127 dX3_activeTransaction_33 hK.xT ?_
        refine lv_iload_n hx hb dX3_activeTransaction_36 rfl (lv_at hl 0 rfl) ?_
        refine al_5 (i := 0) hC hM hK.kT (rfl) (by decide) (by first | decide | omega) (hK.rta (by decide)) dX3_activeTransaction_37 ?_
        refine mw_aret (r := some (ta 0)) hC hM hr hlk dX3_activeTransaction_38 (Nat.le_of_ble_eq_true rfl) (Nat.le_of_ble_eq_true rfl) ⟨_, rfl, ?_⟩
        exact ⟨rfl, 0, ⟨by decide, c16, by assumption⟩, rfl⟩

-- StableHeap.handleOf
set_option maxHeartbeats 4000000 in
set_option maxRecDepth 100000 in
theorem c_X3_handleOf (l : Launch) (hl0 : l.stackTraces = false) (D : va_G) (cs : Nat → ClassId) (h : th_S) (sz : Nat) (r : Option Nat) (hr0 : ∀ b, r = some b → h.1 b = some (2, 0)) : th_M l yX3_handleOf wsX3_handleOf { frames := 0, cells := 0, slots := 0, locals := 0 } D cs h sz [va_rf r] (fun v h' => h = h' ∧ v = some (.int (sh_hd h r))) (fun E h' => False) := by
  rcases r with _ | b
  · skip
    refine mw_ofW (cc := cX3_handleOf) (maxL := 1) (ret := (some .int)) (by decide) rfl (fun w h => List.mem_cons_of_mem _ h) th_cd (Nat.le_of_ble_eq_true rfl) ?_
    intro p e s m below meth c hsz hC hr hlk hnm htab hM ls hl
    have hC : th_C D cs h p m c cX3_handleOf 1 s [.null] RX3 := hC
    have hx := hC.1.1
    have hb := hC.1.2.1
    have hl : lv_has ls 1 [(0, .null)] := hl
    refine lv_aload_nN hx hb dX3_handleOf_0 rfl (lv_at hl 0 rfl) ?_
    refine lv_ifnonnullN hx hb dX3_handleOf_1 ?_
    refine lv_iconst (v := 0) hx hb dX3_handleOf_4 (by decide) ?_
    refine lv_goto (tgt := 12) hx hb dX3_handleOf_5 (by decide) ?_
    refine mw_iret hC hM hr hlk dX3_handleOf_12 (Nat.le_of_ble_eq_true rfl) (Nat.le_of_ble_eq_true rfl) ⟨_, rfl, ?_⟩
    exact ⟨rfl, rfl⟩
  · skip
    refine mw_ofW (cc := cX3_handleOf) (maxL := 1) (ret := (some .int)) (by decide) rfl (fun w h => List.mem_cons_of_mem _ h) th_cd (Nat.le_of_ble_eq_true rfl) ?_
    intro p e s m below meth c hsz hC hr hlk hnm htab hM ls hl
    have hC : th_C D cs h p m c cX3_handleOf 1 s [.ref b] RX3 := hC
    have hx := hC.1.1
    have hb := hC.1.2.1
    have hl : lv_has ls 1 [(0, .ref b)] := hl
    refine lv_aload_n hx hb dX3_handleOf_0 rfl (lv_at hl 0 rfl) ?_
    refine lv_ifnonnull (tgt := 8) hx hb dX3_handleOf_1 (by decide) ?_
    refine lv_aload_n hx hb dX3_handleOf_8 rfl (lv_at hl 0 rfl) ?_
    refine gi_2_0 (index := 184) hC hM (hr0 b rfl) mb_96 dX3_handleOf_9 ?_
    refine mw_iret hC hM hr hlk dX3_handleOf_12 (Nat.le_of_ble_eq_true rfl) (Nat.le_of_ble_eq_true rfl) ⟨_, rfl, ?_⟩
    exact ⟨rfl, rfl⟩

-- StableHeap.refuseIfLockedByAnother
set_option maxHeartbeats 4000000 in
set_option maxRecDepth 100000 in
theorem c_X3_refuseIfLockedByAnother (l : Launch) (hl0 : l.stackTraces = false) (D : va_G) (cs : Nat → ClassId) (h : th_S) (sz : Nat) (a t : Nat) (ha : h.1 a = some (2, 0)) (ht : h.1 t = some (1, 0)) : th_M l yX3_refuseIfLockedByAnother wsX3_refuseIfLockedByAnother { frames := 6, cells := 1, slots := 6, locals := 90 } D cs h sz [.ref a, .ref t] (fun v h' => h = h' ∧ v = none ∧ (h.2.1 a 2 = 0 ∨ h.2.1 a 2 = h.2.1 t 0)) (fun E h' => E = "java/lang/IllegalStateException" ∧ h = h' ∧ ¬ h.2.1 a 2 = 0 ∧ ¬ h.2.1 a 2 = h.2.1 t 0) := by
  refine mw_ofW (cc := cX3_refuseIfLockedByAnother) (maxL := 2) (ret := none) (by decide) rfl (fun w h => List.mem_cons_of_mem _ h) th_cd (Nat.le_of_ble_eq_true rfl) ?_
  intro p e s m below meth c hsz hC hr hlk hnm htab hM ls hl
  have hC : th_C D cs h p m c cX3_refuseIfLockedByAnother 2 s [.ref a, .ref t] RX3 := hC
  have hx := hC.1.1
  have hb := hC.1.2.1
  have hl : lv_has ls 2 [(0, .ref a), (1, .ref t)] := hl
  refine lv_aload_n hx hb dX3_refuseIfLockedByAnother_0 rfl (lv_at hl 0 rfl) ?_
  refine gi_2_2 (index := 71) hC hM ha mb_100 dX3_refuseIfLockedByAnother_1 ?_
  refine lv_if_eq (tgt := 28) hx hb dX3_refuseIfLockedByAnother_4 (by decide) (fun c4 => ?_) (fun c4 => ?_)
  · refine mw_vret hC hM hr hlk dX3_refuseIfLockedByAnother_28 (Nat.le_of_ble_eq_true rfl) (Nat.le_of_ble_eq_true rfl) ⟨_, rfl, ?_⟩
    exact ⟨rfl, rfl, by first | exact Or.inl c4 | exact Or.inr c15⟩
  · refine lv_aload_n hx hb dX3_refuseIfLockedByAnother_7 rfl (lv_at hl 0 rfl) ?_
    refine gi_2_2 (index := 71) hC hM ha mb_100 dX3_refuseIfLockedByAnother_8 ?_
    refine lv_aload_n hx hb dX3_refuseIfLockedByAnother_11 rfl (lv_at hl 1 rfl) ?_
    refine gi_1_0 (index := 43) hC hM ht mb_117 dX3_refuseIfLockedByAnother_12 ?_
    refine lv_icmp_eq (tgt := 28) hx hb dX3_refuseIfLockedByAnother_15 (by decide) (fun c15 => ?_) (fun c15 => ?_)
    · refine mw_vret hC hM hr hlk dX3_refuseIfLockedByAnother_28 (Nat.le_of_ble_eq_true rfl) (Nat.le_of_ble_eq_true rfl) ⟨_, rfl, ?_⟩
      exact ⟨rfl, rfl, by first | exact Or.inl c4 | exact Or.inr c15⟩
    · refine mw_throw (cls := "java/lang/IllegalStateException") (names := ["java/lang/RuntimeException", "java/lang/Exception"]) (ik := 63) (is := 192) (ic := 67) hC hM htab hlk hl0 sx_192 (by decide +kernel) (by decide +kernel) mb_222 mb_44 tg_67 tn_67 to_67 hl.1 dX3_refuseIfLockedByAnother_18 dX3_refuseIfLockedByAnother_21 dX3_refuseIfLockedByAnother_22 dX3_refuseIfLockedByAnother_24 dX3_refuseIfLockedByAnother_27 (Nat.le_of_ble_eq_true rfl) (Nat.le_of_ble_eq_true rfl) (Nat.le_of_ble_eq_true rfl) (Nat.le_of_ble_eq_true rfl) (Nat.le_of_ble_eq_true rfl) (Nat.le_of_ble_eq_true rfl) ⟨_, rfl, ?_⟩
      exact ⟨rfl, rfl, c4, c15⟩
end
section
/-! StableHeap: finding, fields, the log -/
def sh_no (aO n : Nat) (h : th_S) (k : Int32) : Prop := ∀ i a, i < n → h.2.2 aO i = some a → ¬ h.2.1 a 0 = k
def sh_ob (aO n : Nat) (h : th_S) (k : Int32) (a : Nat) : Prop := ∃ i, i < n ∧ h.2.2 aO i = some a ∧ h.2.1 a 0 = k
def sh_fo (aO n : Nat) (h : th_S) (k : Int32) (r : Option Nat) : Prop := (r = none ∧ sh_no aO n h k) ∨ ∃ a, r = some a ∧ sh_ob aO n h k a
def sh_fd (h : th_S) (a : Nat) (f : Int32) (q : Nat) : Prop := ∃ pa n j, h.2.2 a 1 = some pa ∧ h.1 pa = some (6, n) ∧ j < n ∧ f = nI j ∧ h.2.2 pa j = some q
def sh_nf (h : th_S) (a : Nat) (f : Int32) : Prop := ∃ pa n, h.2.2 a 1 = some pa ∧ h.1 pa = some (6, n) ∧ (f < 0 ∨ nI n ≤ f)
theorem sh_ob.k {x aO n : Nat} {h : th_S} {k : Int32} {a : Nat} (o : sh_O x aO n h) (hb : sh_ob aO n h k a) : h.1 a = some (2, 0) := by
  obtain ⟨i, hi, ha, -⟩ := hb
  obtain ⟨b, hb, hk⟩ := o.at hi
  rw [ha] at hb
  cases hb
  exact hk
theorem sh_fd.k {x aR aO aH aT : Nat} {rt ta : Nat → Nat} {h : th_S} {a q : Nat} {f : Int32} (k : sh_K x aR aO aH aT rt ta h) (hq : sh_fd h a f q) : h.1 q = some (3, 0) := by
  obtain ⟨pa, n, j, -, hn, hj, -, h1⟩ := hq
  obtain ⟨b, hb, hk⟩ := k.pa hn hj
  rw [h1] at hb
  cases hb
  exact hk
theorem sh_K.uk {x aR aO aH aT : Nat} {rt ta : Nat → Nat} {h : th_S} (k : sh_K x aR aO aH aT rt ta h) {a j : Nat} {v : Int32} {t : Nat × Nat} (ha : h.1 a = some t) (ht : t ≠ (3, 0)) : sh_K x aR aO aH aT rt ta (th_ui h a j v) :=
  k.ui (fun q => absurd (Option.some.inj (ha.symm.trans q)) ht)

-- the loop at 2 of StableHeap.findObject
set_option maxHeartbeats 4000000 in
set_option maxRecDepth 100000 in
theorem lo_X3_findObject_2 {l : Launch} (hl0 : l.stackTraces = false) {D : va_G} {cs : Nat → ClassId} {h : th_S} (x aR aO aH aT : Nat) (rt ta : Nat → Nat) (hK : sh_K x aR aO aH aT rt ta h) (n : Nat) (hO : sh_O x aO n h) (k : Int32) {p : Program} {e : Env} {s : State} {m : MethodId} {below : List Frame} {meth : Method} {c : Code} (hC : th_C D cs h p m c cX3_findObject 3 s [.ref x, .int k] RX3) (hr : meth.sig.returnType = some (.object "StableHeap$Lockable")) (hlk : meth.locks = false) (htab : ∀ x ∈ c.exceptionTable.toList, False) : ∀ (q : Nat) (i : Nat) (H : Heap) (locs : List Loc) (ls : Array Slot), (i + q = n) → (∀ j a, j < i → h.2.2 aO j = some a → ¬ h.2.1 a 0 = k) → th_H D cs h s h H locs → lv_has ls 3 [(0, .ref x), (1, .int k), (2, .int (nI i))] → W p l e { frames := 0, cells := 0, slots := 0, locals := 0 } s m [.ref x, .int k].toArray below meth c H locs 0 0 (th_Q below D cs h s [.ref x, .int k] (fun v h' => h = h' ∧ ∃ r, v = some (va_rf r) ∧ sh_fo aO n h k r) (fun E h' => False) 0 0) (F0 m 2 ls []) := by
  have hx := hC.1.1
  have hb := hC.1.2.1
  have kx0 : h.1 x = some (0, 0) := hK.kx
  intro q
  induction q with
  | zero =>
    intro i H locs ls hin hinv hM hl
    have hi9 : i = n := by omega
    subst hi9
    refine lv_iload_n hx hb dX3_findObject_2 rfl (lv_at hl 2 rfl) ?_
    refine lv_aload_n hx hb dX3_findObject_3 rfl (lv_at hl 0 rfl) ?_
    refine gi_0_4 (index := 60) hC hM kx0 mb_128 dX3_findObject_4 ?_
    rw [show h.2.1 x 4 = nI i from hO.2.1]
    refine lv_icmp_ge (tgt := 36) hx hb dX3_findObject_7 (by decide) (fun c7 => ?_) (fun c7 => ?_)
    · refine lv_null hx hb dX3_findObject_36 ?_
      refine mw_aret (r := none) hC hM hr hlk dX3_findObject_37 (Nat.le_of_ble_eq_true rfl) (Nat.le_of_ble_eq_true rfl) ⟨_, rfl, ?_⟩
      exact ⟨rfl, none, rfl, Or.inl ⟨rfl, fun j b hj hb => hinv j b hj hb⟩⟩
    · exact absurd (nI_le (Nat.le_refl i) (by have := hO.1; omega)) c7
  | succ q ih =>
    intro i H locs ls hin hinv hM hl
    refine lv_iload_n hx hb dX3_findObject_2 rfl (lv_at hl 2 rfl) ?_
    refine lv_aload_n hx hb dX3_findObject_3 rfl (lv_at hl 0 rfl) ?_
    refine gi_0_4 (index := 60) hC hM kx0 mb_128 dX3_findObject_4 ?_
    rw [show h.2.1 x 4 = nI n from hO.2.1]
    refine lv_icmp_ge (tgt := 36) hx hb dX3_findObject_7 (by decide) (fun c7 => ?_) (fun c7 => ?_)
    · exact absurd c7 (nI_ge (by omega) (by have := hO.1; omega))
    · obtain ⟨a, ha, ka⟩ := hO.at (show i < n by omega)
      refine lv_aload_n hx hb dX3_findObject_10 rfl (lv_at hl 0 rfl) ?_
      refine gr_0_1 (index := 18) hC hM kx0 mb_125 dX3_findObject_11 hK.xO ?_
      refine lv_iload_n hx hb dX3_findObject_14 rfl (lv_at hl 2 rfl) ?_
      refine al_4 (i := i) hC hM hK.kO (rfl) (by have := hO.1; omega) (by first | decide | omega) ha dX3_findObject_15 ?_
      refine gi_2_0 (index := 184) hC hM ka mb_96 dX3_findObject_16 ?_
      refine lv_iload_n hx hb dX3_findObject_19 rfl (lv_at hl 1 rfl) ?_
      refine lv_icmp_ne (tgt := 30) hx hb dX3_findObject_20 (by decide) (fun c20 => ?_) (fun c20 => ?_)
      · refine lv_iinc (v := nI (i + 1)) (lv' := [(2, .int (nI (i + 1))), (0, .ref x), (1, .int k)]) hx hb dX3_findObject_30 hl (k := 2) rfl (by exact nI_1 i) (by first | decide | omega) rfl (fun ls hl => ?_)
        refine lv_goto (tgt := 2) hx hb dX3_findObject_33 (by decide) ?_
        exact ih (i + 1) H locs ls (by omega) (fun j b hj hb => by
          rcases Nat.lt_or_ge j i with h1 | h1
          · exact hinv j b h1 hb
          · rw [show j = i by omega, ha] at hb
            cases hb
            exact c20) hM (lv_sub hl [1, 2, 0] rfl)
      · refine lv_aload_n hx hb dX3_findObject_23 rfl (lv_at hl 0 rfl) ?_
        refine gr_0_1 (index := 18) hC hM kx0 mb_125 dX3_findObject_24 hK.xO ?_
        refine lv_iload_n hx hb dX3_findObject_27 rfl (lv_at hl 2 rfl) ?_
        refine al_4 (i := i) hC hM hK.kO (rfl) (by have := hO.1; omega) (by first | decide | omega) ha dX3_findObject_28 ?_
        refine mw_aret (r := some a) hC hM hr hlk dX3_findObject_29 (Nat.le_of_ble_eq_true rfl) (Nat.le_of_ble_eq_true rfl) ⟨_, rfl, ?_⟩
        exact ⟨rfl, some a, rfl, Or.inr ⟨a, rfl, i, by omega, ha, c20⟩⟩

-- StableHeap.findObject
set_option maxHeartbeats 4000000 in
set_option maxRecDepth 100000 in
theorem c_X3_findObject (l : Launch) (hl0 : l.stackTraces = false) (D : va_G) (cs : Nat → ClassId) (h : th_S) (sz : Nat) (x aR aO aH aT : Nat) (rt ta : Nat → Nat) (hK : sh_K x aR aO aH aT rt ta h) (n : Nat) (hO : sh_O x aO n h) (k : Int32) : th_M l yX3_findObject wsX3_findObject { frames := 0, cells := 0, slots := 0, locals := 0 } D cs h sz [.ref x, .int k] (fun v h' => h = h' ∧ ∃ r, v = some (va_rf r) ∧ sh_fo aO n h k r) (fun E h' => False) := by
  refine mw_ofW (cc := cX3_findObject) (maxL := 3) (ret := (some (.object "StableHeap$Lockable"))) (by decide) rfl (fun w h => List.mem_cons_of_mem _ h) th_cd (Nat.le_of_ble_eq_true rfl) ?_
  intro p e s m below meth c hsz hC hr hlk hnm htab hM ls hl
  have hC : th_C D cs h p m c cX3_findObject 3 s [.ref x, .int k] RX3 := hC
  have hx := hC.1.1
  have hb := hC.1.2.1
  have kx0 : h.1 x = some (0, 0) := hK.kx
  have hl : lv_has ls 3 [(0, .ref x), (1, .int k)] := hl
  refine lv_iconst (v := 0) hx hb dX3_findObject_0 (by decide) ?_
  refine lv_istore_n (lv' := [(2, .int 0), (0, .ref x), (1, .int k)]) hx hb dX3_findObject_1 rfl hl (by decide) rfl (fun ls hl => ?_)
  exact lo_X3_findObject_2 hl0 x aR aO aH aT rt ta hK n hO k hC hr hlk htab n 0 _ _ ls (by omega) (fun j a hj => absurd hj (Nat.not_lt_zero j)) hM (lv_sub hl [1, 2, 0] rfl)

-- StableHeap.objectWith
set_option maxHeartbeats 4000000 in
set_option maxRecDepth 100000 in
theorem c_X3_objectWith (l : Launch) (hl0 : l.stackTraces = false) (D : va_G) (cs : Nat → ClassId) (h : th_S) (sz : Nat) (x aR aO aH aT : Nat) (rt ta : Nat → Nat) (hK : sh_K x aR aO aH aT rt ta h) (n : Nat) (hO : sh_O x aO n h) (k : Int32) : th_M l yX3_objectWith wsX3_objectWith { frames := 6, cells := 1, slots := 6, locals := 90 } D cs h sz [.ref x, .int k] (fun v h' => h = h' ∧ ∃ a, v = some (.ref a) ∧ sh_ob aO n h k a) (fun E h' => E = "java/util/NoSuchElementException" ∧ h = h' ∧ sh_no aO n h k) := by
  refine mw_ofW (cc := cX3_objectWith) (maxL := 3) (ret := (some (.object "StableHeap$Lockable"))) (by decide) rfl (fun w h => List.mem_cons_of_mem _ h) th_cd (Nat.le_of_ble_eq_true rfl) ?_
  intro p e s m below meth c hsz hC hr hlk hnm htab hM ls hl
  have hC : th_C D cs h p m c cX3_objectWith 3 s [.ref x, .int k] RX3 := hC
  have hx := hC.1.1
  have hb := hC.1.2.1
  have kx0 : h.1 x = some (0, 0) := hK.kx
  have hl : lv_has ls 3 [(0, .ref x), (1, .int k)] := hl
  refine lv_aload_n hx hb dX3_objectWith_0 rfl (lv_at hl 0 rfl) ?_
  refine lv_iload_n hx hb dX3_objectWith_1 rfl (lv_at hl 1 rfl) ?_
  refine mw_callV (As := [.int k]) (rest := []) (n := 1) (C := RX3) (T := TX3) (N := 11) (ci := 3) hC hM (c_X3_findObject l hl0 D cs h s.heap.size x aR aO aH aT rt ta hK n hO k) (cwV 1 hC.1.2.2.2.2 (tb_V mb_350 mb_351 mb_11 mb_36 mb_352) rfl rfl rfl (by decide +kernel) ⟨Nat.le_of_ble_eq_true rfl, Nat.le_of_ble_eq_true rfl⟩) (th_at (h := h) kx0) rfl rfl rfl hl.1 (Nat.le_of_ble_eq_true rfl) dX3_objectWith_2 ⟨Nat.le_of_ble_eq_true rfl, Nat.le_of_ble_eq_true rfl⟩ (fun E ce q9 g9 H locs hp9 hM hce hcv hcl => ?_) (fun v9 g9 H locs hp9 hM => ?_)
  · exact (hp9.elim fun _ h9 => h9.2.elim)
  obtain ⟨h2, rfl, hp9⟩ := hp9
  obtain ⟨rfl, r, rfl, hf⟩ := hp9
  rcases hf with ⟨rfl, hf⟩ | ⟨a, rfl, hf⟩
  · skip
    refine W.eq (g2 := F0 m 5 ls [.null]) rfl ?_
    refine lv_astore_nN (lv' := [(2, .null), (0, .ref x), (1, .int k)]) hx hb dX3_objectWith_5 rfl hl (by decide) rfl (fun ls hl => ?_)
    refine lv_aload_nN hx hb dX3_objectWith_6 rfl (lv_at hl 0 rfl) ?_
    refine lv_ifnonnullN hx hb dX3_objectWith_7 ?_
    refine mw_throwN (Y := "java/lang/RuntimeException") (cls := "java/util/NoSuchElementException") (names := ["java/lang/Exception"]) (ik := 162) (is := 182) (ic := 166) hC hM htab hlk hl0 sx_182 (by decide +kernel) (by decide +kernel) (by decide +kernel) mb_311 mb_46 tg_166 tn_166 to_166 hl.1 dX3_objectWith_10 dX3_objectWith_13 dX3_objectWith_14 dX3_objectWith_16 dX3_objectWith_19 (Nat.le_of_ble_eq_true rfl) (Nat.le_of_ble_eq_true rfl) (Nat.le_of_ble_eq_true rfl) (Nat.le_of_ble_eq_true rfl) (Nat.le_of_ble_eq_true rfl) (Nat.le_of_ble_eq_true rfl) ⟨_, rfl, ?_⟩
    exact ⟨rfl, rfl, hf⟩
  · skip
    refine W.eq (g2 := F0 m 5 ls [.ref a]) rfl ?_
    refine lv_astore_n (lv' := [(2, .ref a), (0, .ref x), (1, .int k)]) hx hb dX3_objectWith_5 rfl hl (by decide) rfl (fun ls hl => ?_)
    refine lv_aload_n hx hb dX3_objectWith_6 rfl (lv_at hl 0 rfl) ?_
    refine lv_ifnonnull (tgt := 20) hx hb dX3_objectWith_7 (by decide) ?_
    refine lv_aload_n hx hb dX3_objectWith_20 rfl (lv_at hl 0 rfl) ?_
    refine mw_aret (r := some a) hC hM hr hlk dX3_objectWith_21 (Nat.le_of_ble_eq_true rfl) (Nat.le_of_ble_eq_true rfl) ⟨_, rfl, ?_⟩
    exact ⟨rfl, a, rfl, hf⟩

-- StableHeap.fieldOf
set_option maxHeartbeats 4000000 in
set_option maxRecDepth 100000 in
theorem c_X3_fieldOf (l : Launch) (hl0 : l.stackTraces = false) (D : va_G) (cs : Nat → ClassId) (h : th_S) (sz : Nat) (a pa n : Nat) (ha : h.1 a = some (2, 0)) (hpa : h.2.2 a 1 = some pa) (hn : h.1 pa = some (6, n)) (hn4 : n ≤ 4) (hq : ∀ j, j < n → ∃ q, h.2.2 pa j = some q ∧ h.1 q = some (3, 0)) (k : Int32) : th_M l yX3_fieldOf wsX3_fieldOf { frames := 6, cells := 1, slots := 6, locals := 90 } D cs h sz [.ref a, .int k] (fun v h' => h = h' ∧ ∃ q, v = some (.ref q) ∧ sh_fd h a k q) (fun E h' => E = "java/lang/IndexOutOfBoundsException" ∧ h = h' ∧ sh_nf h a k) := by
  refine mw_ofW (cc := cX3_fieldOf) (maxL := 2) (ret := (some (.object "StableHeap$Place"))) (by decide) rfl (fun w h => List.mem_cons_of_mem _ h) th_cd (Nat.le_of_ble_eq_true rfl) ?_
  intro p e s m below meth c hsz hC hr hlk hnm htab hM ls hl
  have hC : th_C D cs h p m c cX3_fieldOf 2 s [.ref a, .int k] RX3 := hC
  have hx := hC.1.1
  have hb := hC.1.2.1
  have hl : lv_has ls 2 [(0, .ref a), (1, .int k)] := hl
  refine lv_iload_n hx hb dX3_fieldOf_0 rfl (lv_at hl 1 rfl) ?_
  refine lv_if_lt (tgt := 13) hx hb dX3_fieldOf_1 (by decide) (fun c1 => ?_) (fun c1 => ?_)
  · refine mw_throw (cls := "java/lang/IndexOutOfBoundsException") (names := ["java/lang/RuntimeException", "java/lang/Exception"]) (ik := 187) (is := 189) (ic := 191) hC hM htab hlk hl0 sx_189 (by decide +kernel) (by decide +kernel) mb_356 mb_48 tg_191 tn_191 to_191 hl.1 dX3_fieldOf_13 dX3_fieldOf_16 dX3_fieldOf_17 dX3_fieldOf_19 dX3_fieldOf_22 (Nat.le_of_ble_eq_true rfl) (Nat.le_of_ble_eq_true rfl) (Nat.le_of_ble_eq_true rfl) (Nat.le_of_ble_eq_true rfl) (Nat.le_of_ble_eq_true rfl) (Nat.le_of_ble_eq_true rfl) ⟨_, rfl, ?_⟩
    exact ⟨rfl, rfl, pa, n, hpa, hn, by first | exact Or.inl c1 | exact Or.inr (Int32.not_lt.mp c10)⟩
  · refine lv_iload_n hx hb dX3_fieldOf_4 rfl (lv_at hl 1 rfl) ?_
    refine lv_aload_n hx hb dX3_fieldOf_5 rfl (lv_at hl 0 rfl) ?_
    refine gr_2_1 (index := 103) hC hM ha mb_98 dX3_fieldOf_6 hpa ?_
    refine an_6 hC hM hn dX3_fieldOf_9 ?_
    refine lv_icmp_lt (tgt := 23) hx hb dX3_fieldOf_10 (by decide) (fun c10 => ?_) (fun c10 => ?_)
    · obtain ⟨j, hj, hkj⟩ : ∃ j, j < n ∧ k = nI j := by
        rcases pk_ix k (n := n) (by omega) with h1 | h1 | h1
        · exact absurd h1 c1
        · exact absurd h1 (Int32.not_le.mpr c10)
        · exact h1
      obtain ⟨q, hjq, hkq⟩ := hq j hj
      refine lv_aload_n hx hb dX3_fieldOf_23 rfl (lv_at hl 0 rfl) ?_
      refine gr_2_1 (index := 103) hC hM ha mb_98 dX3_fieldOf_24 hpa ?_
      refine lv_iload_n hx hb dX3_fieldOf_27 rfl (lv_at hl 1 rfl) ?_
      refine al_6 (i := j) hC hM hn (hkj) (hj) (by first | decide | omega) hjq dX3_fieldOf_28 ?_
      refine mw_aret (r := some q) hC hM hr hlk dX3_fieldOf_29 (Nat.le_of_ble_eq_true rfl) (Nat.le_of_ble_eq_true rfl) ⟨_, rfl, ?_⟩
      exact ⟨rfl, q, rfl, pa, n, j, hpa, hn, hj, hkj, hjq⟩
    · refine mw_throw (cls := "java/lang/IndexOutOfBoundsException") (names := ["java/lang/RuntimeException", "java/lang/Exception"]) (ik := 187) (is := 189) (ic := 191) hC hM htab hlk hl0 sx_189 (by decide +kernel) (by decide +kernel) mb_356 mb_48 tg_191 tn_191 to_191 hl.1 dX3_fieldOf_13 dX3_fieldOf_16 dX3_fieldOf_17 dX3_fieldOf_19 dX3_fieldOf_22 (Nat.le_of_ble_eq_true rfl) (Nat.le_of_ble_eq_true rfl) (Nat.le_of_ble_eq_true rfl) (Nat.le_of_ble_eq_true rfl) (Nat.le_of_ble_eq_true rfl) (Nat.le_of_ble_eq_true rfl) ⟨_, rfl, ?_⟩
      exact ⟨rfl, rfl, pa, n, hpa, hn, by first | exact Or.inl c1 | exact Or.inr (Int32.not_lt.mp c10)⟩

-- StableHeap.rootAt
set_option maxHeartbeats 4000000 in
set_option maxRecDepth 100000 in
theorem c_X3_rootAt (l : Launch) (hl0 : l.stackTraces = false) (D : va_G) (cs : Nat → ClassId) (h : th_S) (sz : Nat) (x aR aO aH aT : Nat) (rt ta : Nat → Nat) (hK : sh_K x aR aO aH aT rt ta h) (k : Int32) : th_M l yX3_rootAt wsX3_rootAt { frames := 6, cells := 1, slots := 6, locals := 90 } D cs h sz [.ref x, .int k] (fun v h' => h = h' ∧ ∃ j, j < 4 ∧ k = nI j ∧ v = some (.ref (rt j))) (fun E h' => E = "java/lang/IndexOutOfBoundsException" ∧ h = h' ∧ (k < 0 ∨ 4 ≤ k)) := by
  refine mw_ofW (cc := cX3_rootAt) (maxL := 2) (ret := (some (.object "StableHeap$Lockable"))) (by decide) rfl (fun w h => List.mem_cons_of_mem _ h) th_cd (Nat.le_of_ble_eq_true rfl) ?_
  intro p e s m below meth c hsz hC hr hlk hnm htab hM ls hl
  have hC : th_C D cs h p m c cX3_rootAt 2 s [.ref x, .int k] RX3 := hC
  have hx := hC.1.1
  have hb := hC.1.2.1
  have kx0 : h.1 x = some (0, 0) := hK.kx
  have hl : lv_has ls 2 [(0, .ref x), (1, .int k)] := hl
  refine lv_iload_n hx hb dX3_rootAt_0 rfl (lv_at hl 1 rfl) ?_
  refine lv_if_lt (tgt := 9) hx hb dX3_rootAt_1 (by decide) (fun c1 => ?_) (fun c1 => ?_)
  · refine mw_throw (cls := "java/lang/IndexOutOfBoundsException") (names := ["java/lang/RuntimeException", "java/lang/Exception"]) (ik := 187) (is := 164) (ic := 191) hC hM htab hlk hl0 sx_164 (by decide +kernel) (by decide +kernel) mb_356 mb_48 tg_191 tn_191 to_191 hl.1 dX3_rootAt_9 dX3_rootAt_12 dX3_rootAt_13 dX3_rootAt_15 dX3_rootAt_18 (Nat.le_of_ble_eq_true rfl) (Nat.le_of_ble_eq_true rfl) (Nat.le_of_ble_eq_true rfl) (Nat.le_of_ble_eq_true rfl) (Nat.le_of_ble_eq_true rfl) (Nat.le_of_ble_eq_true rfl) ⟨_, rfl, ?_⟩
    exact ⟨rfl, rfl, by first | exact Or.inl c1 | exact Or.inr (Int32.not_lt.mp c6)⟩
  · refine lv_iload_n hx hb dX3_rootAt_4 rfl (lv_at hl 1 rfl) ?_
    refine lv_iconst (v := 4) hx hb dX3_rootAt_5 (by decide) ?_
    refine lv_icmp_lt (tgt := 19) hx hb dX3_rootAt_6 (by decide) (fun c6 => ?_) (fun c6 => ?_)
    · obtain ⟨j, hj, hkj⟩ : ∃ j, j < 4 ∧ k = nI j := by
        rcases pk_ix k (n := 4) (by omega) with h1 | h1 | h1
        · exact absurd h1 c1
        · exact absurd h1 (Int32.not_le.mpr c6)
        · exact h1
      refine lv_aload_n hx hb dX3_rootAt_19 rfl (lv_at hl 0 rfl) ?_
      refine gr_0_0 (index := 11) hC hM kx0 mb_124 dX3_rootAt_20 hK.xR ?_
      refine lv_iload_n hx hb dX3_rootAt_23 rfl (lv_at hl 1 rfl) ?_
      refine al_4 (i := j) hC hM hK.kR (hkj) (hj) (by first | decide | omega) (hK.rr hj) dX3_rootAt_24 ?_
      refine mw_aret (r := some (rt j)) hC hM hr hlk dX3_rootAt_25 (Nat.le_of_ble_eq_true rfl) (Nat.le_of_ble_eq_true rfl) ⟨_, rfl, ?_⟩
      exact ⟨rfl, j, hj, hkj, rfl⟩
    · refine mw_throw (cls := "java/lang/IndexOutOfBoundsException") (names := ["java/lang/RuntimeException", "java/lang/Exception"]) (ik := 187) (is := 164) (ic := 191) hC hM htab hlk hl0 sx_164 (by decide +kernel) (by decide +kernel) mb_356 mb_48 tg_191 tn_191 to_191 hl.1 dX3_rootAt_9 dX3_rootAt_12 dX3_rootAt_13 dX3_rootAt_15 dX3_rootAt_18 (Nat.le_of_ble_eq_true rfl) (Nat.le_of_ble_eq_true rfl) (Nat.le_of_ble_eq_true rfl) (Nat.le_of_ble_eq_true rfl) (Nat.le_of_ble_eq_true rfl) (Nat.le_of_ble_eq_true rfl) ⟨_, rfl, ?_⟩
      exact ⟨rfl, rfl, by first | exact Or.inl c1 | exact Or.inr (Int32.not_lt.mp c6)⟩

-- StableHeap.writeRecord
set_option maxHeartbeats 4000000 in
set_option maxRecDepth 100000 in
theorem c_X3_writeRecord (l : Launch) (hl0 : l.stackTraces = false) (D : va_G) (cs : Nat → ClassId) (h : th_S) (sz : Nat) (x aR aO aH aT : Nat) (rt ta : Nat → Nat) (hK : sh_K x aR aO aH aT rt ta h) (t : Nat) (ht : h.1 t = some (1, 0)) (k : Int32) : th_M l yX3_writeRecord wsX3_writeRecord { frames := 6, cells := 1, slots := 6, locals := 90 } D cs h sz [.ref x, .ref t, .int k] (fun v h' => v = none ∧ h' = th_ui h t 1 (h.2.1 t 1 + k) ∧ sh_wl x ta h + k ≤ 150) (fun E h' => E = "java/lang/UnsupportedOperationException" ∧ h = h' ∧ ¬ sh_wl x ta h + k ≤ 150) := by
  refine mw_ofW (cc := cX3_writeRecord) (maxL := 3) (ret := none) (by decide) rfl (fun w h => List.mem_cons_of_mem _ h) th_cd (Nat.le_of_ble_eq_true rfl) ?_
  intro p e s m below meth c hsz hC hr hlk hnm htab hM ls hl
  have hC : th_C D cs h p m c cX3_writeRecord 3 s [.ref x, .ref t, .int k] RX3 := hC
  have hx := hC.1.1
  have hb := hC.1.2.1
  have kx0 : h.1 x = some (0, 0) := hK.kx
  have hl : lv_has ls 3 [(0, .ref x), (1, .ref t), (2, .int k)] := hl
  refine lv_aload_n hx hb dX3_writeRecord_0 rfl (lv_at hl 0 rfl) ?_
  refine mw_callV (As := []) (rest := []) (n := 0) (C := RX3) (T := TX3) (N := 11) (ci := 3) hC hM (c_X3_wordsInLog l hl0 D cs h s.heap.size x aR aO aH aT rt ta hK) (cwV 0 hC.1.2.2.2.2 (tb_V mb_162 mb_163 mb_0 mb_36 mb_164) rfl rfl rfl (by decide +kernel) ⟨Nat.le_of_ble_eq_true rfl, Nat.le_of_ble_eq_true rfl⟩) (th_at (h := h) kx0) rfl rfl rfl hl.1 (Nat.le_of_ble_eq_true rfl) dX3_writeRecord_1 ⟨Nat.le_of_ble_eq_true rfl, Nat.le_of_ble_eq_true rfl⟩ (fun E ce q9 g9 H locs hp9 hM hce hcv hcl => ?_) (fun v9 g9 H locs hp9 hM => ?_)
  · exact (hp9.elim fun _ h9 => h9.2.elim)
  obtain ⟨h1, rfl, hp9⟩ := hp9
  obtain ⟨rfl, rfl⟩ := hp9
  refine W.eq (g2 := F0 m 4 ls [.int (sh_wl x ta h)]) rfl ?_
  refine lv_iload_n hx hb dX3_writeRecord_4 rfl (lv_at hl 2 rfl) ?_
  refine lv_iadd hx hb dX3_writeRecord_5 ?_
  refine lv_sipush (v := 150) hx hb dX3_writeRecord_6 (by decide) ?_
  refine lv_icmp_le (tgt := 22) hx hb dX3_writeRecord_9 (by decide) (fun c9 => ?_) (fun c9 => ?_)
  · refine lv_aload_n hx hb dX3_writeRecord_22 rfl (lv_at hl 1 rfl) ?_
    refine lv_dup hx hb dX3_writeRecord_23 rfl ?_
    refine gi_1_1 (index := 134) hC hM ht mb_118 dX3_writeRecord_24 ?_
    refine lv_iload_n hx hb dX3_writeRecord_27 rfl (lv_at hl 2 rfl) ?_
    refine lv_iadd hx hb dX3_writeRecord_28 ?_
    refine pu_1_1 (index := 134) (v := (h.2.1 t 1) + k) hC hM ht mb_118 dX3_writeRecord_29 (fun H locs hM => ?_)
    refine mw_vret hC hM hr hlk dX3_writeRecord_32 (Nat.le_of_ble_eq_true rfl) (Nat.le_of_ble_eq_true rfl) ⟨_, rfl, ?_⟩
    exact ⟨rfl, rfl, c9⟩
  · refine mw_throw (cls := "java/lang/UnsupportedOperationException") (names := ["java/lang/RuntimeException", "java/lang/Exception"]) (ik := 200) (is := 202) (ic := 204) hC hM htab hlk hl0 sx_202 (by decide +kernel) (by decide +kernel) mb_285 mb_45 tg_204 tn_204 to_204 hl.1 dX3_writeRecord_12 dX3_writeRecord_15 dX3_writeRecord_16 dX3_writeRecord_18 dX3_writeRecord_21 (Nat.le_of_ble_eq_true rfl) (Nat.le_of_ble_eq_true rfl) (Nat.le_of_ble_eq_true rfl) (Nat.le_of_ble_eq_true rfl) (Nat.le_of_ble_eq_true rfl) (Nat.le_of_ble_eq_true rfl) ⟨_, rfl, ?_⟩
    exact ⟨rfl, rfl, c9⟩
end
section
/-! StableHeap: reads and sets -/
def sh_px (ta : Nat → Nat) (aO n : Nat) (h : th_S) (k o f : Int32) (E : String) (T : Nat → Nat → Nat → Prop) : Prop :=
  (E = "java/util/NoSuchElementException" ∧ sh_nt ta h k) ∨ ∃ i, sh_tx ta h k i ∧ ((E = "java/util/NoSuchElementException" ∧ sh_no aO n h o) ∨ ∃ a, sh_ob aO n h o a ∧ ((E = "java/lang/IndexOutOfBoundsException" ∧ sh_nf h a f) ∨ ∃ q, sh_fd h a f q ∧ T i a q))
def sh_lx (h : th_S) (a : Nat) (k : Int32) (E : String) (T : Prop) : Prop := (E = "java/lang/IllegalStateException" ∧ ¬ h.2.1 a 2 = 0 ∧ ¬ h.2.1 a 2 = k) ∨ ((h.2.1 a 2 = 0 ∨ h.2.1 a 2 = k) ∧ T)

-- StableHeap.readField
set_option maxHeartbeats 4000000 in
set_option maxRecDepth 100000 in
theorem c_X3_readField (l : Launch) (hl0 : l.stackTraces = false) (D : va_G) (cs : Nat → ClassId) (h : th_S) (sz : Nat) (x aR aO aH aT : Nat) (rt ta : Nat → Nat) (hK : sh_K x aR aO aH aT rt ta h) (n : Nat) (hO : sh_O x aO n h) (k o f : Int32) : th_M l yX3_readField wsX3_readField { frames := 7, cells := 4, slots := 24, locals := 112 } D cs h sz [.ref x, .int k, .int o, .int f] (fun v h' => ∃ i a q, sh_tx ta h k i ∧ sh_ob aO n h o a ∧ sh_fd h a f q ∧ (h.2.1 a 2 = 0 ∨ h.2.1 a 2 = k) ∧ h' = th_ui h a 2 k ∧ v = some (.ref q)) (fun E h' => h = h' ∧ sh_px ta aO n h k o f E (fun i a q => sh_lx h a k E False)) := by
  refine mw_ofW (cc := cX3_readField) (maxL := 7) (ret := (some (.object "StableHeap$Place"))) (by decide) rfl (fun w h => List.mem_cons_of_mem _ h) th_cd (Nat.le_of_ble_eq_true rfl) ?_
  intro p e s m below meth c hsz hC hr hlk hnm htab hM ls hl
  have hC : th_C D cs h p m c cX3_readField 7 s [.ref x, .int k, .int o, .int f] RX3 := hC
  have hx := hC.1.1
  have hb := hC.1.2.1
  have kx0 : h.1 x = some (0, 0) := hK.kx
  have hl : lv_has ls 7 [(0, .ref x), (1, .int k), (2, .int o), (3, .int f)] := hl
  refine lv_aload_n hx hb dX3_readField_0 rfl (lv_at hl 0 rfl) ?_
  refine lv_iload_n hx hb dX3_readField_1 rfl (lv_at hl 1 rfl) ?_
  refine mw_callV (As := [.int k]) (rest := []) (n := 1) (C := RX3) (T := TX3) (N := 11) (ci := 3) hC hM (c_X3_activeTransaction l hl0 D cs h s.heap.size x aR aO aH aT rt ta hK k) (cwV 1 hC.1.2.2.2.2 (tb_V mb_308 mb_309 mb_9 mb_36 mb_310) rfl rfl rfl (by decide +kernel) ⟨Nat.le_of_ble_eq_true rfl, Nat.le_of_ble_eq_true rfl⟩) (th_at (h := h) kx0) rfl rfl rfl hl.1 (Nat.le_of_ble_eq_true rfl) dX3_readField_2 ⟨Nat.le_of_ble_eq_true rfl, Nat.le_of_ble_eq_true rfl⟩ (fun E ce q9 g9 H locs hp9 hM hce hcv hcl => ?_) (fun v9 g9 H locs hp9 hM => ?_)
  · obtain ⟨h9, rfl, rfl, rfl, hf⟩ := hp9
    exact mw_out hM htab hlk hce hcv hcl (Nat.le_of_ble_eq_true rfl) (Nat.le_of_ble_eq_true rfl) ⟨_, rfl, rfl, Or.inl ⟨rfl, hf⟩⟩
  obtain ⟨h2, rfl, hp9⟩ := hp9
  obtain ⟨rfl, i, hi, rfl⟩ := hp9
  have kti : h.1 (ta i) = some (1, 0) := hK.kta hi.1
  refine W.eq (g2 := F0 m 5 ls [.ref (ta i)]) rfl ?_
  refine lv_astore (lv' := [(4, .ref (ta i)), (0, .ref x), (1, .int k), (2, .int o), (3, .int f)]) hx hb dX3_readField_5 hl (by decide) rfl (fun ls hl => ?_)
  refine lv_aload_n hx hb dX3_readField_7 rfl (lv_at hl 1 rfl) ?_
  refine lv_iload_n hx hb dX3_readField_8 rfl (lv_at hl 3 rfl) ?_
  refine mw_callV (As := [.int o]) (rest := []) (n := 1) (C := RX3) (T := TX3) (N := 11) (ci := 3) hC hM (c_X3_objectWith l hl0 D cs h H.size x aR aO aH aT rt ta hK n hO o) (cwV 1 hC.1.2.2.2.2 (tb_V mb_347 mb_348 mb_10 mb_36 mb_349) rfl rfl rfl (by decide +kernel) ⟨Nat.le_of_ble_eq_true rfl, Nat.le_of_ble_eq_true rfl⟩) (th_at (h := h) kx0) rfl rfl rfl hl.1 (Nat.le_of_ble_eq_true rfl) dX3_readField_9 ⟨Nat.le_of_ble_eq_true rfl, Nat.le_of_ble_eq_true rfl⟩ (fun E ce q9 g9 H locs hp9 hM hce hcv hcl => ?_) (fun v9 g9 H locs hp9 hM => ?_)
  · obtain ⟨h9, rfl, rfl, rfl, hf⟩ := hp9
    exact mw_out hM htab hlk hce hcv hcl (Nat.le_of_ble_eq_true rfl) (Nat.le_of_ble_eq_true rfl) ⟨_, rfl, rfl, Or.inr ⟨i, hi, Or.inl ⟨rfl, hf⟩⟩⟩
  obtain ⟨h9, rfl, hp9⟩ := hp9
  obtain ⟨rfl, a, rfl, ho⟩ := hp9
  obtain ⟨pa, np, hpa, hnp, hn4⟩ := hK.lk (ho.k hO)
  have kao : h.1 a = some (2, 0) := ho.k hO
  refine W.eq (g2 := F0 m 12 ls [.ref a]) rfl ?_
  refine lv_astore (lv' := [(5, .ref a), (4, .ref (ta i)), (0, .ref x), (1, .int k), (2, .int o), (3, .int f)]) hx hb dX3_readField_12 hl (by decide) rfl (fun ls hl => ?_)
  refine lv_aload hx hb dX3_readField_14 (lv_at hl 0 rfl) ?_
  refine lv_iload_n hx hb dX3_readField_16 rfl (lv_at hl 5 rfl) ?_
  refine mw_callS (As := [.ref a, .int f]) (rest := []) (n := 2) hC hM (c_X3_fieldOf l hl0 D cs h H.size a pa np (ho.k hO) hpa hnp hn4 (fun j hj => hK.pa hnp hj) f) (va_cwS 2 hC.1.2.2.2.2 (tb_S mb_353 mb_354 mb_36 mb_355) rfl rfl rfl (by decide +kernel) ⟨Nat.le_of_ble_eq_true rfl, Nat.le_of_ble_eq_true rfl⟩) rfl rfl hl.1 (Nat.le_of_ble_eq_true rfl) dX3_readField_17 ⟨Nat.le_of_ble_eq_true rfl, Nat.le_of_ble_eq_true rfl⟩ (fun E ce q9 g9 H locs hp9 hM hce hcv hcl => ?_) (fun v9 g9 H locs hp9 hM => ?_)
  · obtain ⟨h9, rfl, rfl, rfl, hf⟩ := hp9
    exact mw_out hM htab hlk hce hcv hcl (Nat.le_of_ble_eq_true rfl) (Nat.le_of_ble_eq_true rfl) ⟨_, rfl, rfl, Or.inr ⟨i, hi, Or.inr ⟨a, ho, Or.inl ⟨rfl, hf⟩⟩⟩⟩
  obtain ⟨h17, rfl, hp9⟩ := hp9
  obtain ⟨rfl, q, rfl, hq⟩ := hp9
  have kqo : h.1 q = some (3, 0) := hq.k hK
  refine W.eq (g2 := F0 m 20 ls [.ref q]) rfl ?_
  refine lv_astore (lv' := [(6, .ref q), (5, .ref a), (4, .ref (ta i)), (0, .ref x), (1, .int k), (2, .int o), (3, .int f)]) hx hb dX3_readField_20 hl (by decide) rfl (fun ls hl => ?_)
  refine lv_aload hx hb dX3_readField_22 (lv_at hl 1 rfl) ?_
  refine lv_aload hx hb dX3_readField_24 (lv_at hl 2 rfl) ?_
  refine mw_callS (As := [.ref a, .ref (ta i)]) (rest := []) (n := 2) hC hM (c_X3_refuseIfLockedByAnother l hl0 D cs h H.size a (ta i) (ho.k hO) (hK.kta hi.1)) (va_cwS 2 hC.1.2.2.2.2 (tb_S mb_370 mb_371 mb_36 mb_372) rfl rfl rfl (by decide +kernel) ⟨Nat.le_of_ble_eq_true rfl, Nat.le_of_ble_eq_true rfl⟩) rfl rfl hl.1 (Nat.le_of_ble_eq_true rfl) dX3_readField_26 ⟨Nat.le_of_ble_eq_true rfl, Nat.le_of_ble_eq_true rfl⟩ (fun E ce q9 g9 H locs hp9 hM hce hcv hcl => ?_) (fun v9 g9 H locs hp9 hM => ?_)
  · obtain ⟨h9, rfl, rfl, rfl, hf⟩ := hp9
    exact mw_out hM htab hlk hce hcv hcl (Nat.le_of_ble_eq_true rfl) (Nat.le_of_ble_eq_true rfl) ⟨_, rfl, rfl, Or.inr ⟨i, hi, Or.inr ⟨a, ho, Or.inr ⟨q, hq, Or.inl ⟨rfl, by rw [← hi.2.2]; exact hf⟩⟩⟩⟩⟩
  obtain ⟨h26, rfl, hp9⟩ := hp9
  obtain ⟨rfl, rfl, hlo⟩ := hp9
  refine W.eq (g2 := F0 m 29 ls []) rfl ?_
  refine lv_aload hx hb dX3_readField_29 (lv_at hl 1 rfl) ?_
  refine lv_aload hx hb dX3_readField_31 (lv_at hl 2 rfl) ?_
  refine gi_1_0 (index := 43) hC hM kti mb_117 dX3_readField_33 ?_
  rw [show h.2.1 (ta i) 0 = k from hi.2.2]
  refine pu_2_2 (index := 71) (v := k) hC hM kao mb_100 dX3_readField_36 (fun H locs hM => ?_)
  refine lv_aload hx hb dX3_readField_39 (lv_at hl 0 rfl) ?_
  refine mw_aret (r := some q) hC hM hr hlk dX3_readField_41 (Nat.le_of_ble_eq_true rfl) (Nat.le_of_ble_eq_true rfl) ⟨_, rfl, ?_⟩
  exact ⟨i, a, q, hi, ho, hq, by rw [← hi.2.2]; exact hlo, rfl, rfl⟩

-- StableHeap.getInt
set_option maxHeartbeats 4000000 in
set_option maxRecDepth 100000 in
theorem c_X3_getInt (l : Launch) (hl0 : l.stackTraces = false) (D : va_G) (cs : Nat → ClassId) (h : th_S) (sz : Nat) (x aR aO aH aT : Nat) (rt ta : Nat → Nat) (hK : sh_K x aR aO aH aT rt ta h) (n : Nat) (hO : sh_O x aO n h) (k o f : Int32) : th_M l yX3_getInt wsX3_getInt { frames := 8, cells := 5, slots := 30, locals := 138 } D cs h sz [.ref x, .int k, .int o, .int f] (fun v h' => ∃ i a q, sh_tx ta h k i ∧ sh_ob aO n h o a ∧ sh_fd h a f q ∧ (h.2.1 a 2 = 0 ∨ h.2.1 a 2 = k) ∧ h' = th_ui h a 2 k ∧ h.2.1 q 0 = 0 ∧ v = some (.int (h.2.1 q 1))) (fun E h' => (h = h' ∧ sh_px ta aO n h k o f E (fun i a q => sh_lx h a k E False)) ∨ (E = "java/lang/ArithmeticException" ∧ ∃ i a q, sh_tx ta h k i ∧ sh_ob aO n h o a ∧ sh_fd h a f q ∧ (h.2.1 a 2 = 0 ∨ h.2.1 a 2 = k) ∧ h' = th_ui h a 2 k ∧ ¬ h.2.1 q 0 = 0)) := by
  refine mw_ofW (cc := cX3_getInt) (maxL := 5) (ret := (some .int)) (by decide) rfl (fun w h => List.mem_cons_of_mem _ h) th_cd (Nat.le_of_ble_eq_true rfl) ?_
  intro p e s m below meth c hsz hC hr hlk hnm htab hM ls hl
  have hC : th_C D cs h p m c cX3_getInt 5 s [.ref x, .int k, .int o, .int f] RX3 := hC
  have hx := hC.1.1
  have hb := hC.1.2.1
  have kx0 : h.1 x = some (0, 0) := hK.kx
  have hl : lv_has ls 5 [(0, .ref x), (1, .int k), (2, .int o), (3, .int f)] := hl
  refine lv_aload_n hx hb dX3_getInt_0 rfl (lv_at hl 0 rfl) ?_
  refine lv_iload_n hx hb dX3_getInt_1 rfl (lv_at hl 1 rfl) ?_
  refine lv_iload_n hx hb dX3_getInt_2 rfl (lv_at hl 2 rfl) ?_
  refine lv_iload_n hx hb dX3_getInt_3 rfl (lv_at hl 3 rfl) ?_
  refine mw_callV (As := [.int k, .int o, .int f]) (rest := []) (n := 3) (C := RX3) (T := TX3) (N := 11) (ci := 3) hC hM (c_X3_readField l hl0 D cs h s.heap.size x aR aO aH aT rt ta hK n hO k o f) (cwV 3 hC.1.2.2.2.2 (tb_V mb_412 mb_413 mb_15 mb_36 mb_414) rfl rfl rfl (by decide +kernel) ⟨Nat.le_of_ble_eq_true rfl, Nat.le_of_ble_eq_true rfl⟩) (th_at (h := h) kx0) rfl rfl rfl hl.1 (Nat.le_of_ble_eq_true rfl) dX3_getInt_4 ⟨Nat.le_of_ble_eq_true rfl, Nat.le_of_ble_eq_true rfl⟩ (fun E ce q9 g9 H locs hp9 hM hce hcv hcl => ?_) (fun v9 g9 H locs hp9 hM => ?_)
  · obtain ⟨h9, rfl, rfl, hf⟩ := hp9
    exact mw_out hM htab hlk hce hcv hcl (Nat.le_of_ble_eq_true rfl) (Nat.le_of_ble_eq_true rfl) ⟨_, rfl, Or.inl ⟨rfl, hf⟩⟩
  obtain ⟨h4, rfl, hp9⟩ := hp9
  obtain ⟨i, a, q, hi, ho, hq, hlo, rfl, rfl⟩ := hp9
  have kq : h.1 q = some (3, 0) := hq.k hK
  have ka : h.1 a = some (2, 0) := ho.k hO
  refine W.eq (g2 := F0 m 7 ls [.ref q]) rfl ?_
  refine lv_astore (lv' := [(4, .ref q), (0, .ref x), (1, .int k), (2, .int o), (3, .int f)]) hx hb dX3_getInt_7 hl (by decide) rfl (fun ls hl => ?_)
  refine lv_aload hx hb dX3_getInt_9 (lv_at hl 0 rfl) ?_
  refine gi_3_0 (index := 111) hC hM kq mb_70 dX3_getInt_11 ?_
  rw [show (th_ui h a 2 k).2.1 q 0 = h.2.1 q 0 from (th_ui_n _ _ _ _ (th_kne (hq.k hK) (ho.k hO) (by decide)))]
  refine lv_if_eq (tgt := 27) hx hb dX3_getInt_14 (by decide) (fun c14 => ?_) (fun c14 => ?_)
  · refine lv_aload hx hb dX3_getInt_27 (lv_at hl 0 rfl) ?_
    refine gi_3_1 (index := 120) hC hM kq mb_72 dX3_getInt_29 ?_
    rw [show (th_ui h a 2 k).2.1 q 1 = h.2.1 q 1 from (th_ui_n _ _ _ _ (th_kne (hq.k hK) (ho.k hO) (by decide)))]
    refine mw_iret hC hM hr hlk dX3_getInt_32 (Nat.le_of_ble_eq_true rfl) (Nat.le_of_ble_eq_true rfl) ⟨_, rfl, ?_⟩
    exact ⟨i, a, q, hi, ho, hq, hlo, rfl, c14, rfl⟩
  · refine mw_throw (cls := "java/lang/ArithmeticException") (names := ["java/lang/RuntimeException", "java/lang/Exception"]) (ik := 115) (is := 117) (ic := 119) hC hM htab hlk hl0 sx_117 (by decide +kernel) (by decide +kernel) mb_415 mb_49 tg_119 tn_119 to_119 hl.1 dX3_getInt_17 dX3_getInt_20 dX3_getInt_21 dX3_getInt_23 dX3_getInt_26 (Nat.le_of_ble_eq_true rfl) (Nat.le_of_ble_eq_true rfl) (Nat.le_of_ble_eq_true rfl) (Nat.le_of_ble_eq_true rfl) (Nat.le_of_ble_eq_true rfl) (Nat.le_of_ble_eq_true rfl) ⟨_, rfl, ?_⟩
    exact Or.inr ⟨rfl, i, a, q, hi, ho, hq, hlo, rfl, c14⟩

theorem th_ui_hd (h : th_S) (a : Nat) (k : Int32) (b : Nat) : (th_ui h a 2 k).2.1 b 0 = h.2.1 b 0 := by
  by_cases e : b = a
  · subst e
    exact th_ui_k _ _ _ (by decide)
  · exact th_ui_n _ _ _ _ e

-- StableHeap.getReference
set_option maxHeartbeats 4000000 in
set_option maxRecDepth 100000 in
theorem c_X3_getReference (l : Launch) (hl0 : l.stackTraces = false) (D : va_G) (cs : Nat → ClassId) (h : th_S) (sz : Nat) (x aR aO aH aT : Nat) (rt ta : Nat → Nat) (hK : sh_K x aR aO aH aT rt ta h) (n : Nat) (hO : sh_O x aO n h) (k o f : Int32) : th_M l yX3_getReference wsX3_getReference { frames := 8, cells := 5, slots := 30, locals := 138 } D cs h sz [.ref x, .int k, .int o, .int f] (fun v h' => ∃ i a q, sh_tx ta h k i ∧ sh_ob aO n h o a ∧ sh_fd h a f q ∧ (h.2.1 a 2 = 0 ∨ h.2.1 a 2 = k) ∧ h' = th_ui h a 2 k ∧ ¬ h.2.1 q 0 = 0 ∧ v = some (.int (sh_hd h (h.2.2 q 2)))) (fun E h' => (h = h' ∧ sh_px ta aO n h k o f E (fun i a q => sh_lx h a k E False)) ∨ (E = "java/lang/ArithmeticException" ∧ ∃ i a q, sh_tx ta h k i ∧ sh_ob aO n h o a ∧ sh_fd h a f q ∧ (h.2.1 a 2 = 0 ∨ h.2.1 a 2 = k) ∧ h' = th_ui h a 2 k ∧ h.2.1 q 0 = 0)) := by
  refine mw_ofW (cc := cX3_getReference) (maxL := 5) (ret := (some .int)) (by decide) rfl (fun w h => List.mem_cons_of_mem _ h) th_cd (Nat.le_of_ble_eq_true rfl) ?_
  intro p e s m below meth c hsz hC hr hlk hnm htab hM ls hl
  have hC : th_C D cs h p m c cX3_getReference 5 s [.ref x, .int k, .int o, .int f] RX3 := hC
  have hx := hC.1.1
  have hb := hC.1.2.1
  have kx0 : h.1 x = some (0, 0) := hK.kx
  have hl : lv_has ls 5 [(0, .ref x), (1, .int k), (2, .int o), (3, .int f)] := hl
  refine lv_aload_n hx hb dX3_getReference_0 rfl (lv_at hl 0 rfl) ?_
  refine lv_iload_n hx hb dX3_getReference_1 rfl (lv_at hl 1 rfl) ?_
  refine lv_iload_n hx hb dX3_getReference_2 rfl (lv_at hl 2 rfl) ?_
  refine lv_iload_n hx hb dX3_getReference_3 rfl (lv_at hl 3 rfl) ?_
  refine mw_callV (As := [.int k, .int o, .int f]) (rest := []) (n := 3) (C := RX3) (T := TX3) (N := 11) (ci := 3) hC hM (c_X3_readField l hl0 D cs h s.heap.size x aR aO aH aT rt ta hK n hO k o f) (cwV 3 hC.1.2.2.2.2 (tb_V mb_412 mb_413 mb_15 mb_36 mb_414) rfl rfl rfl (by decide +kernel) ⟨Nat.le_of_ble_eq_true rfl, Nat.le_of_ble_eq_true rfl⟩) (th_at (h := h) kx0) rfl rfl rfl hl.1 (Nat.le_of_ble_eq_true rfl) dX3_getReference_4 ⟨Nat.le_of_ble_eq_true rfl, Nat.le_of_ble_eq_true rfl⟩ (fun E ce q9 g9 H locs hp9 hM hce hcv hcl => ?_) (fun v9 g9 H locs hp9 hM => ?_)
  · obtain ⟨h9, rfl, rfl, hf⟩ := hp9
    exact mw_out hM htab hlk hce hcv hcl (Nat.le_of_ble_eq_true rfl) (Nat.le_of_ble_eq_true rfl) ⟨_, rfl, Or.inl ⟨rfl, hf⟩⟩
  obtain ⟨h4, rfl, hp9⟩ := hp9
  obtain ⟨i, a, q, hi, ho, hq, hlo, rfl, rfl⟩ := hp9
  have kq : h.1 q = some (3, 0) := hq.k hK
  have ka : h.1 a = some (2, 0) := ho.k hO
  refine W.eq (g2 := F0 m 7 ls [.ref q]) rfl ?_
  refine lv_astore (lv' := [(4, .ref q), (0, .ref x), (1, .int k), (2, .int o), (3, .int f)]) hx hb dX3_getReference_7 hl (by decide) rfl (fun ls hl => ?_)
  refine lv_aload hx hb dX3_getReference_9 (lv_at hl 0 rfl) ?_
  refine gi_3_0 (index := 111) hC hM kq mb_70 dX3_getReference_11 ?_
  rw [show (th_ui h a 2 k).2.1 q 0 = h.2.1 q 0 from (th_ui_n _ _ _ _ (th_kne (hq.k hK) (ho.k hO) (by decide)))]
  refine lv_if_ne (tgt := 27) hx hb dX3_getReference_14 (by decide) (fun c14 => ?_) (fun c14 => ?_)
  · refine lv_aload hx hb dX3_getReference_27 (lv_at hl 0 rfl) ?_
    refine gr_3_2 (index := 123) hC hM kq mb_74 dX3_getReference_29 rfl ?_
    refine mw_callS (As := [va_rf (h.2.2 q 2)]) (rest := []) (n := 1) hC hM (c_X3_handleOf l hl0 D cs (th_ui h a 2 k) H.size (h.2.2 q 2) (fun b hb => (hK.pl (hq.k hK)).2.2.2.1 b hb)) (va_cwS 1 hC.1.2.2.2.2 (tb_S mb_436 mb_437 mb_36 mb_438) rfl rfl rfl (by decide +kernel) ⟨Nat.le_of_ble_eq_true rfl, Nat.le_of_ble_eq_true rfl⟩) rfl rfl hl.1 (Nat.le_of_ble_eq_true rfl) dX3_getReference_32 ⟨Nat.le_of_ble_eq_true rfl, Nat.le_of_ble_eq_true rfl⟩ (fun E ce q9 g9 H locs hp9 hM hce hcv hcl => ?_) (fun v9 g9 H locs hp9 hM => ?_)
    · exact (hp9.elim fun _ h9 => h9.2.elim)
    obtain ⟨h32, rfl, hp9⟩ := hp9
    obtain ⟨rfl, rfl⟩ := hp9
    refine W.eq (g2 := F0 m 35 ls [.int (sh_hd (th_ui h a 2 k) (h.2.2 q 2))]) rfl ?_
    refine mw_iret hC hM hr hlk dX3_getReference_35 (Nat.le_of_ble_eq_true rfl) (Nat.le_of_ble_eq_true rfl) ⟨_, rfl, ?_⟩
    exact ⟨i, a, q, hi, ho, hq, hlo, rfl, c14, by
      congr 2
      unfold sh_hd
      cases h.2.2 q 2 with
      | none => rfl
      | some b => exact th_ui_hd h a k b⟩
  · refine mw_throw (cls := "java/lang/ArithmeticException") (names := ["java/lang/RuntimeException", "java/lang/Exception"]) (ik := 115) (is := 121) (ic := 119) hC hM htab hlk hl0 sx_121 (by decide +kernel) (by decide +kernel) mb_415 mb_49 tg_119 tn_119 to_119 hl.1 dX3_getReference_17 dX3_getReference_20 dX3_getReference_21 dX3_getReference_23 dX3_getReference_26 (Nat.le_of_ble_eq_true rfl) (Nat.le_of_ble_eq_true rfl) (Nat.le_of_ble_eq_true rfl) (Nat.le_of_ble_eq_true rfl) (Nat.le_of_ble_eq_true rfl) (Nat.le_of_ble_eq_true rfl) ⟨_, rfl, ?_⟩
    exact Or.inr ⟨rfl, i, a, q, hi, ho, hq, hlo, rfl, c14⟩

-- StableHeap.refer
set_option maxHeartbeats 4000000 in
set_option maxRecDepth 100000 in
theorem c_X3_refer (l : Launch) (hl0 : l.stackTraces = false) (D : va_G) (cs : Nat → ClassId) (h : th_S) (sz : Nat) (x aR aO aH aT : Nat) (rt ta : Nat → Nat) (hK : sh_K x aR aO aH aT rt ta h) (n : Nat) (hO : sh_O x aO n h) (t a q : Nat) (k : Int32) (ht : h.1 t = some (1, 0)) (ha : h.1 a = some (2, 0)) (hq : h.1 q = some (3, 0)) : th_M l yX3_refer wsX3_refer { frames := 7, cells := 3, slots := 18, locals := 112 } D cs h sz [.ref x, .ref t, .ref a, .ref q, .int k] (fun v h' => v = none ∧ (h.2.1 a 2 = 0 ∨ h.2.1 a 2 = h.2.1 t 0) ∧ ∃ r, sh_fo aO n h k r ∧ (k = 0 ∨ r ≠ none) ∧ sh_wl x ta h + 3 ≤ 150 ∧ h' = pl_ref (th_ui (th_ui h t 1 (h.2.1 t 1 + 3)) a 2 (h.2.1 t 0)) q r) (fun E h' => h = h' ∧ sh_lx h a (h.2.1 t 0) E ((E = "java/lang/IllegalArgumentException" ∧ ¬ k = 0 ∧ sh_no aO n h k) ∨ ∃ r, sh_fo aO n h k r ∧ (k = 0 ∨ r ≠ none) ∧ E = "java/lang/UnsupportedOperationException" ∧ ¬ sh_wl x ta h + 3 ≤ 150)) := by
  refine mw_ofW (cc := cX3_refer) (maxL := 6) (ret := none) (by decide) rfl (fun w h => List.mem_cons_of_mem _ h) th_cd (Nat.le_of_ble_eq_true rfl) ?_
  intro p e s m below meth c hsz hC hr hlk hnm htab hM ls hl
  have hC : th_C D cs h p m c cX3_refer 6 s [.ref x, .ref t, .ref a, .ref q, .int k] RX3 := hC
  have hx := hC.1.1
  have hb := hC.1.2.1
  have kx0 : h.1 x = some (0, 0) := hK.kx
  have hl : lv_has ls 6 [(0, .ref x), (1, .ref t), (2, .ref a), (3, .ref q), (4, .int k)] := hl
  refine lv_aload_n hx hb dX3_refer_0 rfl (lv_at hl 2 rfl) ?_
  refine lv_aload_n hx hb dX3_refer_1 rfl (lv_at hl 1 rfl) ?_
  refine mw_callS (As := [.ref a, .ref t]) (rest := []) (n := 2) hC hM (c_X3_refuseIfLockedByAnother l hl0 D cs h s.heap.size a t ha ht) (va_cwS 2 hC.1.2.2.2.2 (tb_S mb_370 mb_371 mb_36 mb_372) rfl rfl rfl (by decide +kernel) ⟨Nat.le_of_ble_eq_true rfl, Nat.le_of_ble_eq_true rfl⟩) rfl rfl hl.1 (Nat.le_of_ble_eq_true rfl) dX3_refer_2 ⟨Nat.le_of_ble_eq_true rfl, Nat.le_of_ble_eq_true rfl⟩ (fun E ce q9 g9 H locs hp9 hM hce hcv hcl => ?_) (fun v9 g9 H locs hp9 hM => ?_)
  · obtain ⟨h9, rfl, rfl, rfl, hf⟩ := hp9
    exact mw_out hM htab hlk hce hcv hcl (Nat.le_of_ble_eq_true rfl) (Nat.le_of_ble_eq_true rfl) ⟨_, rfl, rfl, Or.inl ⟨rfl, hf⟩⟩
  obtain ⟨h2, rfl, hp9⟩ := hp9
  obtain ⟨rfl, rfl, hlo⟩ := hp9
  refine W.eq (g2 := F0 m 5 ls []) rfl ?_
  refine lv_aload_n hx hb dX3_refer_5 rfl (lv_at hl 0 rfl) ?_
  refine lv_iload hx hb dX3_refer_6 (lv_at hl 4 rfl) ?_
  refine mw_callV (As := [.int k]) (rest := []) (n := 1) (C := RX3) (T := TX3) (N := 11) (ci := 3) hC hM (c_X3_findObject l hl0 D cs h H.size x aR aO aH aT rt ta hK n hO k) (cwV 1 hC.1.2.2.2.2 (tb_V mb_350 mb_351 mb_11 mb_36 mb_352) rfl rfl rfl (by decide +kernel) ⟨Nat.le_of_ble_eq_true rfl, Nat.le_of_ble_eq_true rfl⟩) (th_at (h := h) kx0) rfl rfl rfl hl.1 (Nat.le_of_ble_eq_true rfl) dX3_refer_8 ⟨Nat.le_of_ble_eq_true rfl, Nat.le_of_ble_eq_true rfl⟩ (fun E ce q9 g9 H locs hp9 hM hce hcv hcl => ?_) (fun v9 g9 H locs hp9 hM => ?_)
  · exact (hp9.elim fun _ h9 => h9.2.elim)
  obtain ⟨h8, rfl, hp9⟩ := hp9
  obtain ⟨rfl, r, rfl, hf⟩ := hp9
  rcases hf with ⟨rfl, hf⟩ | ⟨b, rfl, hf⟩
  · skip
    refine W.eq (g2 := F0 m 11 ls [.null]) rfl ?_
    refine lv_astoreN (lv' := [(5, .null), (0, .ref x), (1, .ref t), (2, .ref a), (3, .ref q), (4, .int k)]) hx hb dX3_refer_11 hl (by decide) rfl (fun ls hl => ?_)
    refine lv_iload hx hb dX3_refer_13 (lv_at hl 5 rfl) ?_
    refine lv_if_eq (tgt := 33) hx hb dX3_refer_15 (by decide) (fun c15 => ?_) (fun c15 => ?_)
    · refine lv_aload_n hx hb dX3_refer_33 rfl (lv_at hl 1 rfl) ?_
      refine lv_aload_n hx hb dX3_refer_34 rfl (lv_at hl 2 rfl) ?_
      refine lv_iconst (v := 3) hx hb dX3_refer_35 (by decide) ?_
      refine mw_callV (As := [.ref t, .int 3]) (rest := []) (n := 2) (C := RX3) (T := TX3) (N := 11) (ci := 3) hC hM (c_X3_writeRecord l hl0 D cs h H.size x aR aO aH aT rt ta hK t ht 3) (cwV 2 hC.1.2.2.2.2 (tb_V mb_282 mb_283 mb_8 mb_36 mb_284) rfl rfl rfl (by decide +kernel) ⟨Nat.le_of_ble_eq_true rfl, Nat.le_of_ble_eq_true rfl⟩) (th_at (h := h) kx0) rfl rfl rfl hl.1 (Nat.le_of_ble_eq_true rfl) dX3_refer_36 ⟨Nat.le_of_ble_eq_true rfl, Nat.le_of_ble_eq_true rfl⟩ (fun E ce q9 g9 H locs hp9 hM hce hcv hcl => ?_) (fun v9 g9 H locs hp9 hM => ?_)
      · obtain ⟨h9, rfl, rfl, rfl, hw⟩ := hp9
        exact mw_out hM htab hlk hce hcv hcl (Nat.le_of_ble_eq_true rfl) (Nat.le_of_ble_eq_true rfl) ⟨_, rfl, rfl, Or.inr ⟨hlo, Or.inr ⟨none, Or.inl ⟨rfl, hf⟩, by first | exact Or.inl c15 | exact Or.inr (fun q => nomatch q), rfl, hw⟩⟩⟩
      obtain ⟨h36, rfl, hp9⟩ := hp9
      obtain ⟨rfl, rfl, hw⟩ := hp9
      refine W.eq (g2 := F0 m 39 ls []) rfl ?_
      refine lv_aload_n hx hb dX3_refer_39 rfl (lv_at hl 3 rfl) ?_
      refine lv_aload_n hx hb dX3_refer_40 rfl (lv_at hl 2 rfl) ?_
      refine gi_1_0 (index := 43) hC hM ht mb_117 dX3_refer_41 ?_
      rw [show (th_ui h t 1 (h.2.1 t 1 + 3)).2.1 t 0 = h.2.1 t 0 from th_ui_k _ _ _ (by decide)]
      refine pu_2_2 (index := 71) (v := h.2.1 t 0) hC hM ha mb_100 dX3_refer_44 (fun H locs hM => ?_)
      refine lv_aload_n hx hb dX3_refer_47 rfl (lv_at hl 4 rfl) ?_
      refine lv_aloadN hx hb dX3_refer_48 (lv_at hl 0 rfl) ?_
      refine mw_callV (As := [.null]) (rest := []) (n := 1) (C := RX1) (T := TX1) (N := 7) (ci := 1) hC hM (c_X1_putReference l hl0 D cs (th_ui (th_ui h t 1 (h.2.1 t 1 + 3)) a 2 (h.2.1 t 0)) H.size q hq (((hK.uk ht (by decide)).uk ha (by decide)).pl hq).1 (none)) (cwV 1 hC.1.2.2.2.2 (tb_V mb_390 mb_391 mb_392 mb_38 mb_393) rfl rfl rfl (by decide +kernel) ⟨Nat.le_of_ble_eq_true rfl, Nat.le_of_ble_eq_true rfl⟩) (th_at (h := th_ui (th_ui h t 1 (h.2.1 t 1 + 3)) a 2 (h.2.1 t 0)) hq) rfl rfl rfl hl.1 (Nat.le_of_ble_eq_true rfl) dX3_refer_50 ⟨Nat.le_of_ble_eq_true rfl, Nat.le_of_ble_eq_true rfl⟩ (fun E ce q9 g9 H locs hp9 hM hce hcv hcl => ?_) (fun v9 g9 H locs hp9 hM => ?_)
      · exact (hp9.elim fun _ h9 => h9.2.elim)
      obtain ⟨h50, rfl, hp9⟩ := hp9
      obtain ⟨rfl, rfl⟩ := hp9
      refine W.eq (g2 := F0 m 53 ls []) rfl ?_
      refine mw_vret hC hM hr hlk dX3_refer_53 (Nat.le_of_ble_eq_true rfl) (Nat.le_of_ble_eq_true rfl) ⟨_, rfl, ?_⟩
      exact ⟨rfl, hlo, none, Or.inl ⟨rfl, hf⟩, by first | exact Or.inl c15 | exact Or.inr (fun q => nomatch q), hw, rfl⟩
    · refine lv_aloadN hx hb dX3_refer_18 (lv_at hl 0 rfl) ?_
      refine lv_ifnonnullN hx hb dX3_refer_20 ?_
      refine mw_throw (cls := "java/lang/IllegalArgumentException") (names := ["java/lang/RuntimeException", "java/lang/Exception"]) (ik := 50) (is := 194) (ic := 54) hC hM htab hlk hl0 sx_194 (by decide +kernel) (by decide +kernel) mb_325 mb_47 tg_54 tn_54 to_54 hl.1 dX3_refer_23 dX3_refer_26 dX3_refer_27 dX3_refer_29 dX3_refer_32 (Nat.le_of_ble_eq_true rfl) (Nat.le_of_ble_eq_true rfl) (Nat.le_of_ble_eq_true rfl) (Nat.le_of_ble_eq_true rfl) (Nat.le_of_ble_eq_true rfl) (Nat.le_of_ble_eq_true rfl) ⟨_, rfl, ?_⟩
      exact ⟨rfl, Or.inr ⟨hlo, Or.inl ⟨rfl, c15, hf⟩⟩⟩
  · skip
    refine W.eq (g2 := F0 m 11 ls [.ref b]) rfl ?_
    refine lv_astore (lv' := [(5, .ref b), (0, .ref x), (1, .ref t), (2, .ref a), (3, .ref q), (4, .int k)]) hx hb dX3_refer_11 hl (by decide) rfl (fun ls hl => ?_)
    refine lv_iload hx hb dX3_refer_13 (lv_at hl 5 rfl) ?_
    refine lv_if_eq (tgt := 33) hx hb dX3_refer_15 (by decide) (fun c15 => ?_) (fun c15 => ?_)
    · refine lv_aload_n hx hb dX3_refer_33 rfl (lv_at hl 1 rfl) ?_
      refine lv_aload_n hx hb dX3_refer_34 rfl (lv_at hl 2 rfl) ?_
      refine lv_iconst (v := 3) hx hb dX3_refer_35 (by decide) ?_
      refine mw_callV (As := [.ref t, .int 3]) (rest := []) (n := 2) (C := RX3) (T := TX3) (N := 11) (ci := 3) hC hM (c_X3_writeRecord l hl0 D cs h H.size x aR aO aH aT rt ta hK t ht 3) (cwV 2 hC.1.2.2.2.2 (tb_V mb_282 mb_283 mb_8 mb_36 mb_284) rfl rfl rfl (by decide +kernel) ⟨Nat.le_of_ble_eq_true rfl, Nat.le_of_ble_eq_true rfl⟩) (th_at (h := h) kx0) rfl rfl rfl hl.1 (Nat.le_of_ble_eq_true rfl) dX3_refer_36 ⟨Nat.le_of_ble_eq_true rfl, Nat.le_of_ble_eq_true rfl⟩ (fun E ce q9 g9 H locs hp9 hM hce hcv hcl => ?_) (fun v9 g9 H locs hp9 hM => ?_)
      · obtain ⟨h9, rfl, rfl, rfl, hw⟩ := hp9
        exact mw_out hM htab hlk hce hcv hcl (Nat.le_of_ble_eq_true rfl) (Nat.le_of_ble_eq_true rfl) ⟨_, rfl, rfl, Or.inr ⟨hlo, Or.inr ⟨some b, Or.inr ⟨b, rfl, hf⟩, by first | exact Or.inl c15 | exact Or.inr (fun q => nomatch q), rfl, hw⟩⟩⟩
      obtain ⟨h36, rfl, hp9⟩ := hp9
      obtain ⟨rfl, rfl, hw⟩ := hp9
      refine W.eq (g2 := F0 m 39 ls []) rfl ?_
      refine lv_aload_n hx hb dX3_refer_39 rfl (lv_at hl 3 rfl) ?_
      refine lv_aload_n hx hb dX3_refer_40 rfl (lv_at hl 2 rfl) ?_
      refine gi_1_0 (index := 43) hC hM ht mb_117 dX3_refer_41 ?_
      rw [show (th_ui h t 1 (h.2.1 t 1 + 3)).2.1 t 0 = h.2.1 t 0 from th_ui_k _ _ _ (by decide)]
      refine pu_2_2 (index := 71) (v := h.2.1 t 0) hC hM ha mb_100 dX3_refer_44 (fun H locs hM => ?_)
      refine lv_aload_n hx hb dX3_refer_47 rfl (lv_at hl 4 rfl) ?_
      refine lv_aload hx hb dX3_refer_48 (lv_at hl 0 rfl) ?_
      refine mw_callV (As := [.ref b]) (rest := []) (n := 1) (C := RX1) (T := TX1) (N := 7) (ci := 1) hC hM (c_X1_putReference l hl0 D cs (th_ui (th_ui h t 1 (h.2.1 t 1 + 3)) a 2 (h.2.1 t 0)) H.size q hq (((hK.uk ht (by decide)).uk ha (by decide)).pl hq).1 (some b)) (cwV 1 hC.1.2.2.2.2 (tb_V mb_390 mb_391 mb_392 mb_38 mb_393) rfl rfl rfl (by decide +kernel) ⟨Nat.le_of_ble_eq_true rfl, Nat.le_of_ble_eq_true rfl⟩) (th_at (h := th_ui (th_ui h t 1 (h.2.1 t 1 + 3)) a 2 (h.2.1 t 0)) hq) rfl rfl rfl hl.1 (Nat.le_of_ble_eq_true rfl) dX3_refer_50 ⟨Nat.le_of_ble_eq_true rfl, Nat.le_of_ble_eq_true rfl⟩ (fun E ce q9 g9 H locs hp9 hM hce hcv hcl => ?_) (fun v9 g9 H locs hp9 hM => ?_)
      · exact (hp9.elim fun _ h9 => h9.2.elim)
      obtain ⟨h50, rfl, hp9⟩ := hp9
      obtain ⟨rfl, rfl⟩ := hp9
      refine W.eq (g2 := F0 m 53 ls []) rfl ?_
      refine mw_vret hC hM hr hlk dX3_refer_53 (Nat.le_of_ble_eq_true rfl) (Nat.le_of_ble_eq_true rfl) ⟨_, rfl, ?_⟩
      exact ⟨rfl, hlo, some b, Or.inr ⟨b, rfl, hf⟩, by first | exact Or.inl c15 | exact Or.inr (fun q => nomatch q), hw, rfl⟩
    · refine lv_aload hx hb dX3_refer_18 (lv_at hl 0 rfl) ?_
      refine lv_ifnonnull (tgt := 33) hx hb dX3_refer_20 (by decide) ?_
      refine lv_aload_n hx hb dX3_refer_33 rfl (lv_at hl 1 rfl) ?_
      refine lv_aload_n hx hb dX3_refer_34 rfl (lv_at hl 2 rfl) ?_
      refine lv_iconst (v := 3) hx hb dX3_refer_35 (by decide) ?_
      refine mw_callV (As := [.ref t, .int 3]) (rest := []) (n := 2) (C := RX3) (T := TX3) (N := 11) (ci := 3) hC hM (c_X3_writeRecord l hl0 D cs h H.size x aR aO aH aT rt ta hK t ht 3) (cwV 2 hC.1.2.2.2.2 (tb_V mb_282 mb_283 mb_8 mb_36 mb_284) rfl rfl rfl (by decide +kernel) ⟨Nat.le_of_ble_eq_true rfl, Nat.le_of_ble_eq_true rfl⟩) (th_at (h := h) kx0) rfl rfl rfl hl.1 (Nat.le_of_ble_eq_true rfl) dX3_refer_36 ⟨Nat.le_of_ble_eq_true rfl, Nat.le_of_ble_eq_true rfl⟩ (fun E ce q9 g9 H locs hp9 hM hce hcv hcl => ?_) (fun v9 g9 H locs hp9 hM => ?_)
      · obtain ⟨h9, rfl, rfl, rfl, hw⟩ := hp9
        exact mw_out hM htab hlk hce hcv hcl (Nat.le_of_ble_eq_true rfl) (Nat.le_of_ble_eq_true rfl) ⟨_, rfl, rfl, Or.inr ⟨hlo, Or.inr ⟨some b, Or.inr ⟨b, rfl, hf⟩, by first | exact Or.inl c15 | exact Or.inr (fun q => nomatch q), rfl, hw⟩⟩⟩
      obtain ⟨h36, rfl, hp9⟩ := hp9
      obtain ⟨rfl, rfl, hw⟩ := hp9
      refine W.eq (g2 := F0 m 39 ls []) rfl ?_
      refine lv_aload_n hx hb dX3_refer_39 rfl (lv_at hl 3 rfl) ?_
      refine lv_aload_n hx hb dX3_refer_40 rfl (lv_at hl 2 rfl) ?_
      refine gi_1_0 (index := 43) hC hM ht mb_117 dX3_refer_41 ?_
      rw [show (th_ui h t 1 (h.2.1 t 1 + 3)).2.1 t 0 = h.2.1 t 0 from th_ui_k _ _ _ (by decide)]
      refine pu_2_2 (index := 71) (v := h.2.1 t 0) hC hM ha mb_100 dX3_refer_44 (fun H locs hM => ?_)
      refine lv_aload_n hx hb dX3_refer_47 rfl (lv_at hl 4 rfl) ?_
      refine lv_aload hx hb dX3_refer_48 (lv_at hl 0 rfl) ?_
      refine mw_callV (As := [.ref b]) (rest := []) (n := 1) (C := RX1) (T := TX1) (N := 7) (ci := 1) hC hM (c_X1_putReference l hl0 D cs (th_ui (th_ui h t 1 (h.2.1 t 1 + 3)) a 2 (h.2.1 t 0)) H.size q hq (((hK.uk ht (by decide)).uk ha (by decide)).pl hq).1 (some b)) (cwV 1 hC.1.2.2.2.2 (tb_V mb_390 mb_391 mb_392 mb_38 mb_393) rfl rfl rfl (by decide +kernel) ⟨Nat.le_of_ble_eq_true rfl, Nat.le_of_ble_eq_true rfl⟩) (th_at (h := th_ui (th_ui h t 1 (h.2.1 t 1 + 3)) a 2 (h.2.1 t 0)) hq) rfl rfl rfl hl.1 (Nat.le_of_ble_eq_true rfl) dX3_refer_50 ⟨Nat.le_of_ble_eq_true rfl, Nat.le_of_ble_eq_true rfl⟩ (fun E ce q9 g9 H locs hp9 hM hce hcv hcl => ?_) (fun v9 g9 H locs hp9 hM => ?_)
      · exact (hp9.elim fun _ h9 => h9.2.elim)
      obtain ⟨h50, rfl, hp9⟩ := hp9
      obtain ⟨rfl, rfl⟩ := hp9
      refine W.eq (g2 := F0 m 53 ls []) rfl ?_
      refine mw_vret hC hM hr hlk dX3_refer_53 (Nat.le_of_ble_eq_true rfl) (Nat.le_of_ble_eq_true rfl) ⟨_, rfl, ?_⟩
      exact ⟨rfl, hlo, some b, Or.inr ⟨b, rfl, hf⟩, by first | exact Or.inl c15 | exact Or.inr (fun q => nomatch q), hw, rfl⟩
end
section
/-! StableHeap: sets, roots, begin, looks -/

-- StableHeap.setInt
set_option maxHeartbeats 4000000 in
set_option maxRecDepth 100000 in
theorem c_X3_setInt (l : Launch) (hl0 : l.stackTraces = false) (D : va_G) (cs : Nat → ClassId) (h : th_S) (sz : Nat) (x aR aO aH aT : Nat) (rt ta : Nat → Nat) (hK : sh_K x aR aO aH aT rt ta h) (n : Nat) (hO : sh_O x aO n h) (k o f val : Int32) : th_M l yX3_setInt wsX3_setInt { frames := 7, cells := 5, slots := 30, locals := 112 } D cs h sz [.ref x, .int k, .int o, .int f, .int val] (fun v h' => ∃ i a q, sh_tx ta h k i ∧ sh_ob aO n h o a ∧ sh_fd h a f q ∧ (h.2.1 a 2 = 0 ∨ h.2.1 a 2 = k) ∧ sh_wl x ta h + 3 ≤ 150 ∧ h' = pl_num (th_ui (th_ui h (ta i) 1 (h.2.1 (ta i) 1 + 3)) a 2 k) q val ∧ v = some (.int 1)) (fun E h' => h = h' ∧ sh_px ta aO n h k o f E (fun i a q => sh_lx h a k E (E = "java/lang/UnsupportedOperationException" ∧ ¬ sh_wl x ta h + 3 ≤ 150))) := by
  refine mw_ofW (cc := cX3_setInt) (maxL := 8) (ret := (some .int)) (by decide) rfl (fun w h => List.mem_cons_of_mem _ h) th_cd (Nat.le_of_ble_eq_true rfl) ?_
  intro p e s m below meth c hsz hC hr hlk hnm htab hM ls hl
  have hC : th_C D cs h p m c cX3_setInt 8 s [.ref x, .int k, .int o, .int f, .int val] RX3 := hC
  have hx := hC.1.1
  have hb := hC.1.2.1
  have kx0 : h.1 x = some (0, 0) := hK.kx
  have hl : lv_has ls 8 [(0, .ref x), (1, .int k), (2, .int o), (3, .int f), (4, .int val)] := hl
  refine lv_aload_n hx hb dX3_setInt_0 rfl (lv_at hl 0 rfl) ?_
  refine lv_iload_n hx hb dX3_setInt_1 rfl (lv_at hl 1 rfl) ?_
  refine mw_callV (As := [.int k]) (rest := []) (n := 1) (C := RX3) (T := TX3) (N := 11) (ci := 3) hC hM (c_X3_activeTransaction l hl0 D cs h s.heap.size x aR aO aH aT rt ta hK k) (cwV 1 hC.1.2.2.2.2 (tb_V mb_308 mb_309 mb_9 mb_36 mb_310) rfl rfl rfl (by decide +kernel) ⟨Nat.le_of_ble_eq_true rfl, Nat.le_of_ble_eq_true rfl⟩) (th_at (h := h) kx0) rfl rfl rfl hl.1 (Nat.le_of_ble_eq_true rfl) dX3_setInt_2 ⟨Nat.le_of_ble_eq_true rfl, Nat.le_of_ble_eq_true rfl⟩ (fun E ce q9 g9 H locs hp9 hM hce hcv hcl => ?_) (fun v9 g9 H locs hp9 hM => ?_)
  · obtain ⟨h9, rfl, rfl, rfl, hf⟩ := hp9
    exact mw_out hM htab hlk hce hcv hcl (Nat.le_of_ble_eq_true rfl) (Nat.le_of_ble_eq_true rfl) ⟨_, rfl, rfl, Or.inl ⟨rfl, hf⟩⟩
  obtain ⟨h2, rfl, hp9⟩ := hp9
  obtain ⟨rfl, i, hi, rfl⟩ := hp9
  have kti : h.1 (ta i) = some (1, 0) := hK.kta hi.1
  refine W.eq (g2 := F0 m 5 ls [.ref (ta i)]) rfl ?_
  refine lv_astore (lv' := [(5, .ref (ta i)), (0, .ref x), (1, .int k), (2, .int o), (3, .int f), (4, .int val)]) hx hb dX3_setInt_5 hl (by decide) rfl (fun ls hl => ?_)
  refine lv_aload_n hx hb dX3_setInt_7 rfl (lv_at hl 1 rfl) ?_
  refine lv_iload_n hx hb dX3_setInt_8 rfl (lv_at hl 3 rfl) ?_
  refine mw_callV (As := [.int o]) (rest := []) (n := 1) (C := RX3) (T := TX3) (N := 11) (ci := 3) hC hM (c_X3_objectWith l hl0 D cs h H.size x aR aO aH aT rt ta hK n hO o) (cwV 1 hC.1.2.2.2.2 (tb_V mb_347 mb_348 mb_10 mb_36 mb_349) rfl rfl rfl (by decide +kernel) ⟨Nat.le_of_ble_eq_true rfl, Nat.le_of_ble_eq_true rfl⟩) (th_at (h := h) kx0) rfl rfl rfl hl.1 (Nat.le_of_ble_eq_true rfl) dX3_setInt_9 ⟨Nat.le_of_ble_eq_true rfl, Nat.le_of_ble_eq_true rfl⟩ (fun E ce q9 g9 H locs hp9 hM hce hcv hcl => ?_) (fun v9 g9 H locs hp9 hM => ?_)
  · obtain ⟨h9, rfl, rfl, rfl, hf⟩ := hp9
    exact mw_out hM htab hlk hce hcv hcl (Nat.le_of_ble_eq_true rfl) (Nat.le_of_ble_eq_true rfl) ⟨_, rfl, rfl, Or.inr ⟨i, hi, Or.inl ⟨rfl, hf⟩⟩⟩
  obtain ⟨h9, rfl, hp9⟩ := hp9
  obtain ⟨rfl, a, rfl, ho⟩ := hp9
  obtain ⟨pa, np, hpa, hnp, hn4⟩ := hK.lk (ho.k hO)
  have kao : h.1 a = some (2, 0) := ho.k hO
  refine W.eq (g2 := F0 m 12 ls [.ref a]) rfl ?_
  refine lv_astore (lv' := [(6, .ref a), (5, .ref (ta i)), (0, .ref x), (1, .int k), (2, .int o), (3, .int f), (4, .int val)]) hx hb dX3_setInt_12 hl (by decide) rfl (fun ls hl => ?_)
  refine lv_aload hx hb dX3_setInt_14 (lv_at hl 0 rfl) ?_
  refine lv_iload_n hx hb dX3_setInt_16 rfl (lv_at hl 5 rfl) ?_
  refine mw_callS (As := [.ref a, .int f]) (rest := []) (n := 2) hC hM (c_X3_fieldOf l hl0 D cs h H.size a pa np (ho.k hO) hpa hnp hn4 (fun j hj => hK.pa hnp hj) f) (va_cwS 2 hC.1.2.2.2.2 (tb_S mb_353 mb_354 mb_36 mb_355) rfl rfl rfl (by decide +kernel) ⟨Nat.le_of_ble_eq_true rfl, Nat.le_of_ble_eq_true rfl⟩) rfl rfl hl.1 (Nat.le_of_ble_eq_true rfl) dX3_setInt_17 ⟨Nat.le_of_ble_eq_true rfl, Nat.le_of_ble_eq_true rfl⟩ (fun E ce q9 g9 H locs hp9 hM hce hcv hcl => ?_) (fun v9 g9 H locs hp9 hM => ?_)
  · obtain ⟨h9, rfl, rfl, rfl, hf⟩ := hp9
    exact mw_out hM htab hlk hce hcv hcl (Nat.le_of_ble_eq_true rfl) (Nat.le_of_ble_eq_true rfl) ⟨_, rfl, rfl, Or.inr ⟨i, hi, Or.inr ⟨a, ho, Or.inl ⟨rfl, hf⟩⟩⟩⟩
  obtain ⟨h17, rfl, hp9⟩ := hp9
  obtain ⟨rfl, q, rfl, hq⟩ := hp9
  have kqo : h.1 q = some (3, 0) := hq.k hK
  refine W.eq (g2 := F0 m 20 ls [.ref q]) rfl ?_
  refine lv_astore (lv' := [(7, .ref q), (6, .ref a), (5, .ref (ta i)), (0, .ref x), (1, .int k), (2, .int o), (3, .int f), (4, .int val)]) hx hb dX3_setInt_20 hl (by decide) rfl (fun ls hl => ?_)
  refine lv_aload hx hb dX3_setInt_22 (lv_at hl 1 rfl) ?_
  refine lv_aload hx hb dX3_setInt_24 (lv_at hl 2 rfl) ?_
  refine mw_callS (As := [.ref a, .ref (ta i)]) (rest := []) (n := 2) hC hM (c_X3_refuseIfLockedByAnother l hl0 D cs h H.size a (ta i) (ho.k hO) (hK.kta hi.1)) (va_cwS 2 hC.1.2.2.2.2 (tb_S mb_370 mb_371 mb_36 mb_372) rfl rfl rfl (by decide +kernel) ⟨Nat.le_of_ble_eq_true rfl, Nat.le_of_ble_eq_true rfl⟩) rfl rfl hl.1 (Nat.le_of_ble_eq_true rfl) dX3_setInt_26 ⟨Nat.le_of_ble_eq_true rfl, Nat.le_of_ble_eq_true rfl⟩ (fun E ce q9 g9 H locs hp9 hM hce hcv hcl => ?_) (fun v9 g9 H locs hp9 hM => ?_)
  · obtain ⟨h9, rfl, rfl, rfl, hf⟩ := hp9
    exact mw_out hM htab hlk hce hcv hcl (Nat.le_of_ble_eq_true rfl) (Nat.le_of_ble_eq_true rfl) ⟨_, rfl, rfl, Or.inr ⟨i, hi, Or.inr ⟨a, ho, Or.inr ⟨q, hq, Or.inl ⟨rfl, by rw [← hi.2.2]; exact hf⟩⟩⟩⟩⟩
  obtain ⟨h26, rfl, hp9⟩ := hp9
  obtain ⟨rfl, rfl, hlo⟩ := hp9
  refine W.eq (g2 := F0 m 29 ls []) rfl ?_
  refine lv_aload_n hx hb dX3_setInt_29 rfl (lv_at hl 3 rfl) ?_
  refine lv_aload hx hb dX3_setInt_30 (lv_at hl 2 rfl) ?_
  refine lv_iconst (v := 3) hx hb dX3_setInt_32 (by decide) ?_
  refine mw_callV (As := [.ref (ta i), .int 3]) (rest := []) (n := 2) (C := RX3) (T := TX3) (N := 11) (ci := 3) hC hM (c_X3_writeRecord l hl0 D cs h H.size x aR aO aH aT rt ta hK (ta i) (hK.kta hi.1) 3) (cwV 2 hC.1.2.2.2.2 (tb_V mb_282 mb_283 mb_8 mb_36 mb_284) rfl rfl rfl (by decide +kernel) ⟨Nat.le_of_ble_eq_true rfl, Nat.le_of_ble_eq_true rfl⟩) (th_at (h := h) kx0) rfl rfl rfl hl.1 (Nat.le_of_ble_eq_true rfl) dX3_setInt_33 ⟨Nat.le_of_ble_eq_true rfl, Nat.le_of_ble_eq_true rfl⟩ (fun E ce q9 g9 H locs hp9 hM hce hcv hcl => ?_) (fun v9 g9 H locs hp9 hM => ?_)
  · obtain ⟨h9, rfl, rfl, rfl, hw⟩ := hp9
    exact mw_out hM htab hlk hce hcv hcl (Nat.le_of_ble_eq_true rfl) (Nat.le_of_ble_eq_true rfl) ⟨_, rfl, rfl, Or.inr ⟨i, hi, Or.inr ⟨a, ho, Or.inr ⟨q, hq, Or.inr ⟨by rw [← hi.2.2]; exact hlo, rfl, hw⟩⟩⟩⟩⟩
  obtain ⟨h33, rfl, hp9⟩ := hp9
  obtain ⟨rfl, rfl, hw⟩ := hp9
  refine W.eq (g2 := F0 m 36 ls []) rfl ?_
  refine lv_aload hx hb dX3_setInt_36 (lv_at hl 1 rfl) ?_
  refine lv_aload hx hb dX3_setInt_38 (lv_at hl 2 rfl) ?_
  refine gi_1_0 (index := 43) hC hM kti mb_117 dX3_setInt_40 ?_
  rw [show (th_ui h (ta i) 1 (h.2.1 (ta i) 1 + 3)).2.1 (ta i) 0 = k from (th_ui_k _ _ _ (by decide)).trans hi.2.2]
  refine pu_2_2 (index := 71) (v := k) hC hM kao mb_100 dX3_setInt_43 (fun H locs hM => ?_)
  refine lv_aload hx hb dX3_setInt_46 (lv_at hl 0 rfl) ?_
  refine lv_iload hx hb dX3_setInt_48 (lv_at hl 7 rfl) ?_
  refine mw_callV (As := [.int val]) (rest := []) (n := 1) (C := RX1) (T := TX1) (N := 7) (ci := 1) hC hM (c_X1_putNumber l hl0 D cs (th_ui (th_ui h (ta i) 1 (h.2.1 (ta i) 1 + 3)) a 2 k) H.size q kqo (((hK.uk kti (by decide)).uk kao (by decide)).pl kqo).1 val) (cwV 1 hC.1.2.2.2.2 (tb_V mb_373 mb_374 mb_375 mb_38 mb_376) rfl rfl rfl (by decide +kernel) ⟨Nat.le_of_ble_eq_true rfl, Nat.le_of_ble_eq_true rfl⟩) (th_at (h := th_ui (th_ui h (ta i) 1 (h.2.1 (ta i) 1 + 3)) a 2 k) kqo) rfl rfl rfl hl.1 (Nat.le_of_ble_eq_true rfl) dX3_setInt_50 ⟨Nat.le_of_ble_eq_true rfl, Nat.le_of_ble_eq_true rfl⟩ (fun E ce q9 g9 H locs hp9 hM hce hcv hcl => ?_) (fun v9 g9 H locs hp9 hM => ?_)
  · exact (hp9.elim fun _ h9 => h9.2.elim)
  obtain ⟨h50, rfl, hp9⟩ := hp9
  obtain ⟨rfl, rfl⟩ := hp9
  refine W.eq (g2 := F0 m 53 ls []) rfl ?_
  refine lv_iconst (v := 1) hx hb dX3_setInt_53 (by decide) ?_
  refine mw_iret hC hM hr hlk dX3_setInt_54 (Nat.le_of_ble_eq_true rfl) (Nat.le_of_ble_eq_true rfl) ⟨_, rfl, ?_⟩
  exact ⟨i, a, q, hi, ho, hq, by rw [← hi.2.2]; exact hlo, hw, rfl, rfl⟩

-- StableHeap.setReference
set_option maxHeartbeats 4000000 in
set_option maxRecDepth 100000 in
theorem c_X3_setReference (l : Launch) (hl0 : l.stackTraces = false) (D : va_G) (cs : Nat → ClassId) (h : th_S) (sz : Nat) (x aR aO aH aT : Nat) (rt ta : Nat → Nat) (hK : sh_K x aR aO aH aT rt ta h) (n : Nat) (hO : sh_O x aO n h) (k o f val : Int32) : th_M l yX3_setReference wsX3_setReference { frames := 8, cells := 6, slots := 36, locals := 137 } D cs h sz [.ref x, .int k, .int o, .int f, .int val] (fun v h' => ∃ i a q r, sh_tx ta h k i ∧ sh_ob aO n h o a ∧ sh_fd h a f q ∧ (h.2.1 a 2 = 0 ∨ h.2.1 a 2 = k) ∧ sh_fo aO n h val r ∧ (val = 0 ∨ r ≠ none) ∧ sh_wl x ta h + 3 ≤ 150 ∧ h' = pl_ref (th_ui (th_ui h (ta i) 1 (h.2.1 (ta i) 1 + 3)) a 2 (h.2.1 (ta i) 0)) q r ∧ v = some (.int 1)) (fun E h' => h = h' ∧ sh_px ta aO n h k o f E (fun i a q => sh_lx h a k E ((E = "java/lang/IllegalArgumentException" ∧ ¬ val = 0 ∧ sh_no aO n h val) ∨ ∃ r, sh_fo aO n h val r ∧ (val = 0 ∨ r ≠ none) ∧ E = "java/lang/UnsupportedOperationException" ∧ ¬ sh_wl x ta h + 3 ≤ 150))) := by
  refine mw_ofW (cc := cX3_setReference) (maxL := 8) (ret := (some .int)) (by decide) rfl (fun w h => List.mem_cons_of_mem _ h) th_cd (Nat.le_of_ble_eq_true rfl) ?_
  intro p e s m below meth c hsz hC hr hlk hnm htab hM ls hl
  have hC : th_C D cs h p m c cX3_setReference 8 s [.ref x, .int k, .int o, .int f, .int val] RX3 := hC
  have hx := hC.1.1
  have hb := hC.1.2.1
  have kx0 : h.1 x = some (0, 0) := hK.kx
  have hl : lv_has ls 8 [(0, .ref x), (1, .int k), (2, .int o), (3, .int f), (4, .int val)] := hl
  refine lv_aload_n hx hb dX3_setReference_0 rfl (lv_at hl 0 rfl) ?_
  refine lv_iload_n hx hb dX3_setReference_1 rfl (lv_at hl 1 rfl) ?_
  refine mw_callV (As := [.int k]) (rest := []) (n := 1) (C := RX3) (T := TX3) (N := 11) (ci := 3) hC hM (c_X3_activeTransaction l hl0 D cs h s.heap.size x aR aO aH aT rt ta hK k) (cwV 1 hC.1.2.2.2.2 (tb_V mb_308 mb_309 mb_9 mb_36 mb_310) rfl rfl rfl (by decide +kernel) ⟨Nat.le_of_ble_eq_true rfl, Nat.le_of_ble_eq_true rfl⟩) (th_at (h := h) kx0) rfl rfl rfl hl.1 (Nat.le_of_ble_eq_true rfl) dX3_setReference_2 ⟨Nat.le_of_ble_eq_true rfl, Nat.le_of_ble_eq_true rfl⟩ (fun E ce q9 g9 H locs hp9 hM hce hcv hcl => ?_) (fun v9 g9 H locs hp9 hM => ?_)
  · obtain ⟨h9, rfl, rfl, rfl, hf⟩ := hp9
    exact mw_out hM htab hlk hce hcv hcl (Nat.le_of_ble_eq_true rfl) (Nat.le_of_ble_eq_true rfl) ⟨_, rfl, rfl, Or.inl ⟨rfl, hf⟩⟩
  obtain ⟨h2, rfl, hp9⟩ := hp9
  obtain ⟨rfl, i, hi, rfl⟩ := hp9
  have kti : h.1 (ta i) = some (1, 0) := hK.kta hi.1
  refine W.eq (g2 := F0 m 5 ls [.ref (ta i)]) rfl ?_
  refine lv_astore (lv' := [(5, .ref (ta i)), (0, .ref x), (1, .int k), (2, .int o), (3, .int f), (4, .int val)]) hx hb dX3_setReference_5 hl (by decide) rfl (fun ls hl => ?_)
  refine lv_aload_n hx hb dX3_setReference_7 rfl (lv_at hl 1 rfl) ?_
  refine lv_iload_n hx hb dX3_setReference_8 rfl (lv_at hl 3 rfl) ?_
  refine mw_callV (As := [.int o]) (rest := []) (n := 1) (C := RX3) (T := TX3) (N := 11) (ci := 3) hC hM (c_X3_objectWith l hl0 D cs h H.size x aR aO aH aT rt ta hK n hO o) (cwV 1 hC.1.2.2.2.2 (tb_V mb_347 mb_348 mb_10 mb_36 mb_349) rfl rfl rfl (by decide +kernel) ⟨Nat.le_of_ble_eq_true rfl, Nat.le_of_ble_eq_true rfl⟩) (th_at (h := h) kx0) rfl rfl rfl hl.1 (Nat.le_of_ble_eq_true rfl) dX3_setReference_9 ⟨Nat.le_of_ble_eq_true rfl, Nat.le_of_ble_eq_true rfl⟩ (fun E ce q9 g9 H locs hp9 hM hce hcv hcl => ?_) (fun v9 g9 H locs hp9 hM => ?_)
  · obtain ⟨h9, rfl, rfl, rfl, hf⟩ := hp9
    exact mw_out hM htab hlk hce hcv hcl (Nat.le_of_ble_eq_true rfl) (Nat.le_of_ble_eq_true rfl) ⟨_, rfl, rfl, Or.inr ⟨i, hi, Or.inl ⟨rfl, hf⟩⟩⟩
  obtain ⟨h9, rfl, hp9⟩ := hp9
  obtain ⟨rfl, a, rfl, ho⟩ := hp9
  obtain ⟨pa, np, hpa, hnp, hn4⟩ := hK.lk (ho.k hO)
  have kao : h.1 a = some (2, 0) := ho.k hO
  refine W.eq (g2 := F0 m 12 ls [.ref a]) rfl ?_
  refine lv_astore (lv' := [(6, .ref a), (5, .ref (ta i)), (0, .ref x), (1, .int k), (2, .int o), (3, .int f), (4, .int val)]) hx hb dX3_setReference_12 hl (by decide) rfl (fun ls hl => ?_)
  refine lv_aload hx hb dX3_setReference_14 (lv_at hl 0 rfl) ?_
  refine lv_iload_n hx hb dX3_setReference_16 rfl (lv_at hl 5 rfl) ?_
  refine mw_callS (As := [.ref a, .int f]) (rest := []) (n := 2) hC hM (c_X3_fieldOf l hl0 D cs h H.size a pa np (ho.k hO) hpa hnp hn4 (fun j hj => hK.pa hnp hj) f) (va_cwS 2 hC.1.2.2.2.2 (tb_S mb_353 mb_354 mb_36 mb_355) rfl rfl rfl (by decide +kernel) ⟨Nat.le_of_ble_eq_true rfl, Nat.le_of_ble_eq_true rfl⟩) rfl rfl hl.1 (Nat.le_of_ble_eq_true rfl) dX3_setReference_17 ⟨Nat.le_of_ble_eq_true rfl, Nat.le_of_ble_eq_true rfl⟩ (fun E ce q9 g9 H locs hp9 hM hce hcv hcl => ?_) (fun v9 g9 H locs hp9 hM => ?_)
  · obtain ⟨h9, rfl, rfl, rfl, hf⟩ := hp9
    exact mw_out hM htab hlk hce hcv hcl (Nat.le_of_ble_eq_true rfl) (Nat.le_of_ble_eq_true rfl) ⟨_, rfl, rfl, Or.inr ⟨i, hi, Or.inr ⟨a, ho, Or.inl ⟨rfl, hf⟩⟩⟩⟩
  obtain ⟨h17, rfl, hp9⟩ := hp9
  obtain ⟨rfl, q, rfl, hq⟩ := hp9
  have kqo : h.1 q = some (3, 0) := hq.k hK
  refine W.eq (g2 := F0 m 20 ls [.ref q]) rfl ?_
  refine lv_astore (lv' := [(7, .ref q), (6, .ref a), (5, .ref (ta i)), (0, .ref x), (1, .int k), (2, .int o), (3, .int f), (4, .int val)]) hx hb dX3_setReference_20 hl (by decide) rfl (fun ls hl => ?_)
  refine lv_aload_n hx hb dX3_setReference_22 rfl (lv_at hl 3 rfl) ?_
  refine lv_aload hx hb dX3_setReference_23 (lv_at hl 2 rfl) ?_
  refine lv_aload hx hb dX3_setReference_25 (lv_at hl 1 rfl) ?_
  refine lv_aload hx hb dX3_setReference_27 (lv_at hl 0 rfl) ?_
  refine lv_iload hx hb dX3_setReference_29 (lv_at hl 7 rfl) ?_
  refine mw_callV (As := [.ref (ta i), .ref a, .ref q, .int val]) (rest := []) (n := 4) (C := RX3) (T := TX3) (N := 11) (ci := 3) hC hM (c_X3_refer l hl0 D cs h H.size x aR aO aH aT rt ta hK n hO (ta i) a q val (hK.kta hi.1) (ho.k hO) (hq.k hK)) (cwV 4 hC.1.2.2.2.2 (tb_V mb_387 mb_388 mb_13 mb_36 mb_389) rfl rfl rfl (by decide +kernel) ⟨Nat.le_of_ble_eq_true rfl, Nat.le_of_ble_eq_true rfl⟩) (th_at (h := h) kx0) rfl rfl rfl hl.1 (Nat.le_of_ble_eq_true rfl) dX3_setReference_31 ⟨Nat.le_of_ble_eq_true rfl, Nat.le_of_ble_eq_true rfl⟩ (fun E ce q9 g9 H locs hp9 hM hce hcv hcl => ?_) (fun v9 g9 H locs hp9 hM => ?_)
  · obtain ⟨h9, rfl, rfl, hf⟩ := hp9
    rw [hi.2.2] at hf
    exact mw_out hM htab hlk hce hcv hcl (Nat.le_of_ble_eq_true rfl) (Nat.le_of_ble_eq_true rfl) ⟨_, rfl, rfl, Or.inr ⟨i, hi, Or.inr ⟨a, ho, Or.inr ⟨q, hq, hf⟩⟩⟩⟩
  obtain ⟨h31, rfl, hp9⟩ := hp9
  obtain ⟨rfl, hlo, r, hf, hr9, hw, rfl⟩ := hp9
  rw [hi.2.2] at hlo
  refine W.eq (g2 := F0 m 34 ls []) rfl ?_
  refine lv_iconst (v := 1) hx hb dX3_setReference_34 (by decide) ?_
  refine mw_iret hC hM hr hlk dX3_setReference_35 (Nat.le_of_ble_eq_true rfl) (Nat.le_of_ble_eq_true rfl) ⟨_, rfl, ?_⟩
  exact ⟨i, a, q, r, hi, ho, hq, hlo, hf, hr9, hw, rfl, rfl⟩

def sh_rp (h : th_S) (a q : Nat) : Prop := ∃ pa, h.2.2 a 1 = some pa ∧ h.1 pa = some (6, 1) ∧ h.2.2 pa 0 = some q ∧ h.1 q = some (3, 0)

-- StableHeap.setRoot
set_option maxHeartbeats 4000000 in
set_option maxRecDepth 100000 in
theorem c_X3_setRoot (l : Launch) (hl0 : l.stackTraces = false) (D : va_G) (cs : Nat → ClassId) (h : th_S) (sz : Nat) (x aR aO aH aT : Nat) (rt ta : Nat → Nat) (hK : sh_K x aR aO aH aT rt ta h) (n : Nat) (hO : sh_O x aO n h) (k o val : Int32) : th_M l yX3_setRoot wsX3_setRoot { frames := 8, cells := 5, slots := 30, locals := 137 } D cs h sz [.ref x, .int k, .int o, .int val] (fun v h' => ∃ i j q r, sh_tx ta h k i ∧ j < 4 ∧ o = nI j ∧ sh_rp h (rt j) q ∧ (h.2.1 (rt j) 2 = 0 ∨ h.2.1 (rt j) 2 = k) ∧ sh_fo aO n h val r ∧ (val = 0 ∨ r ≠ none) ∧ sh_wl x ta h + 3 ≤ 150 ∧ h' = pl_ref (th_ui (th_ui h (ta i) 1 (h.2.1 (ta i) 1 + 3)) (rt j) 2 (h.2.1 (ta i) 0)) q r ∧ v = some (.int 1)) (fun E h' => h = h' ∧ ((E = "java/util/NoSuchElementException" ∧ sh_nt ta h k) ∨ ∃ i, sh_tx ta h k i ∧ ((E = "java/lang/IndexOutOfBoundsException" ∧ (o < 0 ∨ 4 ≤ o)) ∨ ∃ j, j < 4 ∧ o = nI j ∧ sh_lx h (rt j) k E ((E = "java/lang/IllegalArgumentException" ∧ ¬ val = 0 ∧ sh_no aO n h val) ∨ ∃ r, sh_fo aO n h val r ∧ (val = 0 ∨ r ≠ none) ∧ E = "java/lang/UnsupportedOperationException" ∧ ¬ sh_wl x ta h + 3 ≤ 150)))) := by
  refine mw_ofW (cc := cX3_setRoot) (maxL := 6) (ret := (some .int)) (by decide) rfl (fun w h => List.mem_cons_of_mem _ h) th_cd (Nat.le_of_ble_eq_true rfl) ?_
  intro p e s m below meth c hsz hC hr hlk hnm htab hM ls hl
  have hC : th_C D cs h p m c cX3_setRoot 6 s [.ref x, .int k, .int o, .int val] RX3 := hC
  have hx := hC.1.1
  have hb := hC.1.2.1
  have kx0 : h.1 x = some (0, 0) := hK.kx
  have hl : lv_has ls 6 [(0, .ref x), (1, .int k), (2, .int o), (3, .int val)] := hl
  refine lv_aload_n hx hb dX3_setRoot_0 rfl (lv_at hl 0 rfl) ?_
  refine lv_iload_n hx hb dX3_setRoot_1 rfl (lv_at hl 1 rfl) ?_
  refine mw_callV (As := [.int k]) (rest := []) (n := 1) (C := RX3) (T := TX3) (N := 11) (ci := 3) hC hM (c_X3_activeTransaction l hl0 D cs h s.heap.size x aR aO aH aT rt ta hK k) (cwV 1 hC.1.2.2.2.2 (tb_V mb_308 mb_309 mb_9 mb_36 mb_310) rfl rfl rfl (by decide +kernel) ⟨Nat.le_of_ble_eq_true rfl, Nat.le_of_ble_eq_true rfl⟩) (th_at (h := h) kx0) rfl rfl rfl hl.1 (Nat.le_of_ble_eq_true rfl) dX3_setRoot_2 ⟨Nat.le_of_ble_eq_true rfl, Nat.le_of_ble_eq_true rfl⟩ (fun E ce q9 g9 H locs hp9 hM hce hcv hcl => ?_) (fun v9 g9 H locs hp9 hM => ?_)
  · obtain ⟨h9, rfl, rfl, rfl, hf⟩ := hp9
    exact mw_out hM htab hlk hce hcv hcl (Nat.le_of_ble_eq_true rfl) (Nat.le_of_ble_eq_true rfl) ⟨_, rfl, rfl, Or.inl ⟨rfl, hf⟩⟩
  obtain ⟨h2, rfl, hp9⟩ := hp9
  obtain ⟨rfl, i, hi, rfl⟩ := hp9
  have kti : h.1 (ta i) = some (1, 0) := hK.kta hi.1
  refine W.eq (g2 := F0 m 5 ls [.ref (ta i)]) rfl ?_
  refine lv_astore (lv' := [(4, .ref (ta i)), (0, .ref x), (1, .int k), (2, .int o), (3, .int val)]) hx hb dX3_setRoot_5 hl (by decide) rfl (fun ls hl => ?_)
  refine lv_aload_n hx hb dX3_setRoot_7 rfl (lv_at hl 1 rfl) ?_
  refine lv_iload_n hx hb dX3_setRoot_8 rfl (lv_at hl 3 rfl) ?_
  refine mw_callV (As := [.int o]) (rest := []) (n := 1) (C := RX3) (T := TX3) (N := 11) (ci := 3) hC hM (c_X3_rootAt l hl0 D cs h H.size x aR aO aH aT rt ta hK o) (cwV 1 hC.1.2.2.2.2 (tb_V mb_401 mb_402 mb_14 mb_36 mb_403) rfl rfl rfl (by decide +kernel) ⟨Nat.le_of_ble_eq_true rfl, Nat.le_of_ble_eq_true rfl⟩) (th_at (h := h) kx0) rfl rfl rfl hl.1 (Nat.le_of_ble_eq_true rfl) dX3_setRoot_9 ⟨Nat.le_of_ble_eq_true rfl, Nat.le_of_ble_eq_true rfl⟩ (fun E ce q9 g9 H locs hp9 hM hce hcv hcl => ?_) (fun v9 g9 H locs hp9 hM => ?_)
  · obtain ⟨h9, rfl, rfl, rfl, hf⟩ := hp9
    exact mw_out hM htab hlk hce hcv hcl (Nat.le_of_ble_eq_true rfl) (Nat.le_of_ble_eq_true rfl) ⟨_, rfl, rfl, Or.inr ⟨i, hi, Or.inl ⟨rfl, hf⟩⟩⟩
  obtain ⟨h9, rfl, hp9⟩ := hp9
  obtain ⟨rfl, j, hj, hoj, rfl⟩ := hp9
  have krj : h.1 (rt j) = some (2, 0) := hK.krt hj
  obtain ⟨pa, hpa, hnp⟩ := hK.r1 hj
  obtain ⟨q, hjq, hkq⟩ := hK.pa hnp (show 0 < 1 by decide)
  refine W.eq (g2 := F0 m 12 ls [.ref (rt j)]) rfl ?_
  refine lv_astore (lv' := [(5, .ref (rt j)), (4, .ref (ta i)), (0, .ref x), (1, .int k), (2, .int o), (3, .int val)]) hx hb dX3_setRoot_12 hl (by decide) rfl (fun ls hl => ?_)
  refine lv_aload_n hx hb dX3_setRoot_14 rfl (lv_at hl 2 rfl) ?_
  refine lv_aload hx hb dX3_setRoot_15 (lv_at hl 1 rfl) ?_
  refine lv_aload hx hb dX3_setRoot_17 (lv_at hl 0 rfl) ?_
  refine lv_aload hx hb dX3_setRoot_19 (lv_at hl 0 rfl) ?_
  refine gr_2_1 (index := 103) hC hM krj mb_98 dX3_setRoot_21 hpa ?_
  refine lv_iconst (v := 0) hx hb dX3_setRoot_24 (by decide) ?_
  refine al_6 (i := 0) hC hM hnp (rfl) (by decide) (by first | decide | omega) hjq dX3_setRoot_25 ?_
  refine lv_iload_n hx hb dX3_setRoot_26 rfl (lv_at hl 5 rfl) ?_
  refine mw_callV (As := [.ref (ta i), .ref (rt j), .ref q, .int val]) (rest := []) (n := 4) (C := RX3) (T := TX3) (N := 11) (ci := 3) hC hM (c_X3_refer l hl0 D cs h H.size x aR aO aH aT rt ta hK n hO (ta i) (rt j) q val (hK.kta hi.1) (hK.krt hj) hkq) (cwV 4 hC.1.2.2.2.2 (tb_V mb_387 mb_388 mb_13 mb_36 mb_389) rfl rfl rfl (by decide +kernel) ⟨Nat.le_of_ble_eq_true rfl, Nat.le_of_ble_eq_true rfl⟩) (th_at (h := h) kx0) rfl rfl rfl hl.1 (Nat.le_of_ble_eq_true rfl) dX3_setRoot_27 ⟨Nat.le_of_ble_eq_true rfl, Nat.le_of_ble_eq_true rfl⟩ (fun E ce q9 g9 H locs hp9 hM hce hcv hcl => ?_) (fun v9 g9 H locs hp9 hM => ?_)
  · obtain ⟨h9, rfl, rfl, hf⟩ := hp9
    rw [hi.2.2] at hf
    exact mw_out hM htab hlk hce hcv hcl (Nat.le_of_ble_eq_true rfl) (Nat.le_of_ble_eq_true rfl) ⟨_, rfl, rfl, Or.inr ⟨i, hi, Or.inr ⟨j, hj, hoj, hf⟩⟩⟩
  obtain ⟨h27, rfl, hp9⟩ := hp9
  obtain ⟨rfl, hlo, r, hf, hr9, hw, rfl⟩ := hp9
  rw [hi.2.2] at hlo
  refine W.eq (g2 := F0 m 30 ls []) rfl ?_
  refine lv_iconst (v := 1) hx hb dX3_setRoot_30 (by decide) ?_
  refine mw_iret hC hM hr hlk dX3_setRoot_31 (Nat.le_of_ble_eq_true rfl) (Nat.le_of_ble_eq_true rfl) ⟨_, rfl, ?_⟩
  exact ⟨i, j, q, r, hi, hj, hoj, ⟨pa, hpa, hnp, hjq, hkq⟩, hlo, hf, hr9, hw, rfl, rfl⟩

-- StableHeap.getRoot
set_option maxHeartbeats 4000000 in
set_option maxRecDepth 100000 in
theorem c_X3_getRoot (l : Launch) (hl0 : l.stackTraces = false) (D : va_G) (cs : Nat → ClassId) (h : th_S) (sz : Nat) (x aR aO aH aT : Nat) (rt ta : Nat → Nat) (hK : sh_K x aR aO aH aT rt ta h) (k o : Int32) : th_M l yX3_getRoot wsX3_getRoot { frames := 7, cells := 3, slots := 18, locals := 112 } D cs h sz [.ref x, .int k, .int o] (fun v h' => ∃ i j q, sh_tx ta h k i ∧ j < 4 ∧ o = nI j ∧ sh_rp h (rt j) q ∧ (h.2.1 (rt j) 2 = 0 ∨ h.2.1 (rt j) 2 = k) ∧ h' = th_ui h (rt j) 2 k ∧ v = some (.int (sh_hd h (h.2.2 q 2)))) (fun E h' => h = h' ∧ ((E = "java/util/NoSuchElementException" ∧ sh_nt ta h k) ∨ ∃ i, sh_tx ta h k i ∧ ((E = "java/lang/IndexOutOfBoundsException" ∧ (o < 0 ∨ 4 ≤ o)) ∨ ∃ j, j < 4 ∧ o = nI j ∧ sh_lx h (rt j) k E False))) := by
  refine mw_ofW (cc := cX3_getRoot) (maxL := 5) (ret := (some .int)) (by decide) rfl (fun w h => List.mem_cons_of_mem _ h) th_cd (Nat.le_of_ble_eq_true rfl) ?_
  intro p e s m below meth c hsz hC hr hlk hnm htab hM ls hl
  have hC : th_C D cs h p m c cX3_getRoot 5 s [.ref x, .int k, .int o] RX3 := hC
  have hx := hC.1.1
  have hb := hC.1.2.1
  have kx0 : h.1 x = some (0, 0) := hK.kx
  have hl : lv_has ls 5 [(0, .ref x), (1, .int k), (2, .int o)] := hl
  refine lv_aload_n hx hb dX3_getRoot_0 rfl (lv_at hl 0 rfl) ?_
  refine lv_iload_n hx hb dX3_getRoot_1 rfl (lv_at hl 1 rfl) ?_
  refine mw_callV (As := [.int k]) (rest := []) (n := 1) (C := RX3) (T := TX3) (N := 11) (ci := 3) hC hM (c_X3_activeTransaction l hl0 D cs h s.heap.size x aR aO aH aT rt ta hK k) (cwV 1 hC.1.2.2.2.2 (tb_V mb_308 mb_309 mb_9 mb_36 mb_310) rfl rfl rfl (by decide +kernel) ⟨Nat.le_of_ble_eq_true rfl, Nat.le_of_ble_eq_true rfl⟩) (th_at (h := h) kx0) rfl rfl rfl hl.1 (Nat.le_of_ble_eq_true rfl) dX3_getRoot_2 ⟨Nat.le_of_ble_eq_true rfl, Nat.le_of_ble_eq_true rfl⟩ (fun E ce q9 g9 H locs hp9 hM hce hcv hcl => ?_) (fun v9 g9 H locs hp9 hM => ?_)
  · obtain ⟨h9, rfl, rfl, rfl, hf⟩ := hp9
    exact mw_out hM htab hlk hce hcv hcl (Nat.le_of_ble_eq_true rfl) (Nat.le_of_ble_eq_true rfl) ⟨_, rfl, rfl, Or.inl ⟨rfl, hf⟩⟩
  obtain ⟨h2, rfl, hp9⟩ := hp9
  obtain ⟨rfl, i, hi, rfl⟩ := hp9
  have kti : h.1 (ta i) = some (1, 0) := hK.kta hi.1
  refine W.eq (g2 := F0 m 5 ls [.ref (ta i)]) rfl ?_
  refine lv_astore_n (lv' := [(3, .ref (ta i)), (0, .ref x), (1, .int k), (2, .int o)]) hx hb dX3_getRoot_5 rfl hl (by decide) rfl (fun ls hl => ?_)
  refine lv_aload_n hx hb dX3_getRoot_6 rfl (lv_at hl 1 rfl) ?_
  refine lv_iload_n hx hb dX3_getRoot_7 rfl (lv_at hl 3 rfl) ?_
  refine mw_callV (As := [.int o]) (rest := []) (n := 1) (C := RX3) (T := TX3) (N := 11) (ci := 3) hC hM (c_X3_rootAt l hl0 D cs h H.size x aR aO aH aT rt ta hK o) (cwV 1 hC.1.2.2.2.2 (tb_V mb_401 mb_402 mb_14 mb_36 mb_403) rfl rfl rfl (by decide +kernel) ⟨Nat.le_of_ble_eq_true rfl, Nat.le_of_ble_eq_true rfl⟩) (th_at (h := h) kx0) rfl rfl rfl hl.1 (Nat.le_of_ble_eq_true rfl) dX3_getRoot_8 ⟨Nat.le_of_ble_eq_true rfl, Nat.le_of_ble_eq_true rfl⟩ (fun E ce q9 g9 H locs hp9 hM hce hcv hcl => ?_) (fun v9 g9 H locs hp9 hM => ?_)
  · obtain ⟨h9, rfl, rfl, rfl, hf⟩ := hp9
    exact mw_out hM htab hlk hce hcv hcl (Nat.le_of_ble_eq_true rfl) (Nat.le_of_ble_eq_true rfl) ⟨_, rfl, rfl, Or.inr ⟨i, hi, Or.inl ⟨rfl, hf⟩⟩⟩
  obtain ⟨h8, rfl, hp9⟩ := hp9
  obtain ⟨rfl, j, hj, hoj, rfl⟩ := hp9
  have krj : h.1 (rt j) = some (2, 0) := hK.krt hj
  obtain ⟨pa, hpa, hnp⟩ := hK.r1 hj
  obtain ⟨q, hjq, hkq⟩ := hK.pa hnp (show 0 < 1 by decide)
  refine W.eq (g2 := F0 m 11 ls [.ref (rt j)]) rfl ?_
  refine lv_astore (lv' := [(4, .ref (rt j)), (3, .ref (ta i)), (0, .ref x), (1, .int k), (2, .int o)]) hx hb dX3_getRoot_11 hl (by decide) rfl (fun ls hl => ?_)
  refine lv_aload hx hb dX3_getRoot_13 (lv_at hl 0 rfl) ?_
  refine lv_aload_n hx hb dX3_getRoot_15 rfl (lv_at hl 1 rfl) ?_
  refine mw_callS (As := [.ref (rt j), .ref (ta i)]) (rest := []) (n := 2) hC hM (c_X3_refuseIfLockedByAnother l hl0 D cs h H.size (rt j) (ta i) (hK.krt hj) (hK.kta hi.1)) (va_cwS 2 hC.1.2.2.2.2 (tb_S mb_370 mb_371 mb_36 mb_372) rfl rfl rfl (by decide +kernel) ⟨Nat.le_of_ble_eq_true rfl, Nat.le_of_ble_eq_true rfl⟩) rfl rfl hl.1 (Nat.le_of_ble_eq_true rfl) dX3_getRoot_16 ⟨Nat.le_of_ble_eq_true rfl, Nat.le_of_ble_eq_true rfl⟩ (fun E ce q9 g9 H locs hp9 hM hce hcv hcl => ?_) (fun v9 g9 H locs hp9 hM => ?_)
  · obtain ⟨h9, rfl, rfl, rfl, hf⟩ := hp9
    exact mw_out hM htab hlk hce hcv hcl (Nat.le_of_ble_eq_true rfl) (Nat.le_of_ble_eq_true rfl) ⟨_, rfl, rfl, Or.inr ⟨i, hi, Or.inr ⟨j, hj, hoj, Or.inl ⟨rfl, by rw [← hi.2.2]; exact hf⟩⟩⟩⟩
  obtain ⟨h16, rfl, hp9⟩ := hp9
  obtain ⟨rfl, rfl, hlo⟩ := hp9
  refine W.eq (g2 := F0 m 19 ls []) rfl ?_
  refine lv_aload hx hb dX3_getRoot_19 (lv_at hl 0 rfl) ?_
  refine lv_aload_n hx hb dX3_getRoot_21 rfl (lv_at hl 1 rfl) ?_
  refine gi_1_0 (index := 43) hC hM kti mb_117 dX3_getRoot_22 ?_
  rw [show h.2.1 (ta i) 0 = k from hi.2.2]
  refine pu_2_2 (index := 71) (v := k) hC hM krj mb_100 dX3_getRoot_25 (fun H locs hM => ?_)
  refine lv_aload hx hb dX3_getRoot_28 (lv_at hl 0 rfl) ?_
  refine gr_2_1 (index := 103) hC hM krj mb_98 dX3_getRoot_30 hpa ?_
  refine lv_iconst (v := 0) hx hb dX3_getRoot_33 (by decide) ?_
  refine al_6 (i := 0) hC hM hnp (rfl) (by decide) (by first | decide | omega) hjq dX3_getRoot_34 ?_
  refine gr_3_2 (index := 123) hC hM hkq mb_74 dX3_getRoot_35 rfl ?_
  refine mw_callS (As := [va_rf (h.2.2 q 2)]) (rest := []) (n := 1) hC hM (c_X3_handleOf l hl0 D cs (th_ui h (rt j) 2 k) H.size (h.2.2 q 2) (fun b hb => (hK.pl hkq).2.2.2.1 b hb)) (va_cwS 1 hC.1.2.2.2.2 (tb_S mb_436 mb_437 mb_36 mb_438) rfl rfl rfl (by decide +kernel) ⟨Nat.le_of_ble_eq_true rfl, Nat.le_of_ble_eq_true rfl⟩) rfl rfl hl.1 (Nat.le_of_ble_eq_true rfl) dX3_getRoot_38 ⟨Nat.le_of_ble_eq_true rfl, Nat.le_of_ble_eq_true rfl⟩ (fun E ce q9 g9 H locs hp9 hM hce hcv hcl => ?_) (fun v9 g9 H locs hp9 hM => ?_)
  · exact (hp9.elim fun _ h9 => h9.2.elim)
  obtain ⟨h38, rfl, hp9⟩ := hp9
  obtain ⟨rfl, rfl⟩ := hp9
  refine W.eq (g2 := F0 m 41 ls [.int (sh_hd (th_ui h (rt j) 2 k) (h.2.2 q 2))]) rfl ?_
  refine mw_iret hC hM hr hlk dX3_getRoot_41 (Nat.le_of_ble_eq_true rfl) (Nat.le_of_ble_eq_true rfl) ⟨_, rfl, ?_⟩
  exact ⟨i, j, q, hi, hj, hoj, ⟨pa, hpa, hnp, hjq, hkq⟩, by rw [← hi.2.2]; exact hlo, rfl, by
    congr 2
    unfold sh_hd
    cases h.2.2 q 2 with
    | none => rfl
    | some b => exact th_ui_hd h (rt j) k b⟩

-- StableHeap.begin
set_option maxHeartbeats 4000000 in
set_option maxRecDepth 100000 in
theorem c_X3_begin (l : Launch) (hl0 : l.stackTraces = false) (D : va_G) (cs : Nat → ClassId) (h : th_S) (sz : Nat) (x aR aO aH aT : Nat) (rt ta : Nat → Nat) (hK : sh_K x aR aO aH aT rt ta h) : th_M l yX3_begin wsX3_begin { frames := 7, cells := 2, slots := 12, locals := 112 } D cs h sz [.ref x] (fun v h' => ∃ i, i < 3 ∧ h.2.1 (ta i) 0 = 0 ∧ sh_wl x ta h + 1 ≤ 150 ∧ h' = th_ui (th_ui (th_ui h (ta i) 1 (h.2.1 (ta i) 1 + 1)) x 9 (h.2.1 x 9 + 1)) (ta i) 0 (h.2.1 x 9 + 1) ∧ v = some (.int (h.2.1 x 9 + 1))) (fun E h' => h = h' ∧ ((E = "java/lang/IllegalStateException" ∧ ∀ i, i < 3 → ¬ h.2.1 (ta i) 0 = 0) ∨ (E = "java/lang/UnsupportedOperationException" ∧ (∃ i, i < 3 ∧ h.2.1 (ta i) 0 = 0) ∧ ¬ sh_wl x ta h + 1 ≤ 150))) := by
  refine mw_ofW (cc := cX3_begin) (maxL := 2) (ret := (some .int)) (by decide) rfl (fun w h => List.mem_cons_of_mem _ h) th_cd (Nat.le_of_ble_eq_true rfl) ?_
  intro p e s m below meth c hsz hC hr hlk hnm htab hM ls hl
  have hC : th_C D cs h p m c cX3_begin 2 s [.ref x] RX3 := hC
  have hx := hC.1.1
  have hb := hC.1.2.1
  have kx0 : h.1 x = some (0, 0) := hK.kx
  have hl : lv_has ls 2 [(0, .ref x)] := hl
  refine lv_aload_n hx hb dX3_begin_0 rfl (lv_at hl 0 rfl) ?_
  refine mw_callV (As := []) (rest := []) (n := 0) (C := RX3) (T := TX3) (N := 11) (ci := 3) hC hM (c_X3_unusedTransaction l hl0 D cs h s.heap.size x aR aO aH aT rt ta hK) (cwV 0 hC.1.2.2.2.2 (tb_V mb_219 mb_220 mb_6 mb_36 mb_221) rfl rfl rfl (by decide +kernel) ⟨Nat.le_of_ble_eq_true rfl, Nat.le_of_ble_eq_true rfl⟩) (th_at (h := h) kx0) rfl rfl rfl hl.1 (Nat.le_of_ble_eq_true rfl) dX3_begin_1 ⟨Nat.le_of_ble_eq_true rfl, Nat.le_of_ble_eq_true rfl⟩ (fun E ce q9 g9 H locs hp9 hM hce hcv hcl => ?_) (fun v9 g9 H locs hp9 hM => ?_)
  · obtain ⟨h9, rfl, rfl, rfl, hf⟩ := hp9
    exact mw_out hM htab hlk hce hcv hcl (Nat.le_of_ble_eq_true rfl) (Nat.le_of_ble_eq_true rfl) ⟨_, rfl, rfl, Or.inl ⟨rfl, hf⟩⟩
  obtain ⟨h1, rfl, hp9⟩ := hp9
  obtain ⟨rfl, i, hi, rfl, hi0⟩ := hp9
  have kti : h.1 (ta i) = some (1, 0) := hK.kta hi
  refine W.eq (g2 := F0 m 4 ls [.ref (ta i)]) rfl ?_
  refine lv_astore_n (lv' := [(1, .ref (ta i)), (0, .ref x)]) hx hb dX3_begin_4 rfl hl (by decide) rfl (fun ls hl => ?_)
  refine lv_aload_n hx hb dX3_begin_5 rfl (lv_at hl 1 rfl) ?_
  refine lv_aload_n hx hb dX3_begin_6 rfl (lv_at hl 0 rfl) ?_
  refine lv_iconst (v := 1) hx hb dX3_begin_7 (by decide) ?_
  refine mw_callV (As := [.ref (ta i), .int 1]) (rest := []) (n := 2) (C := RX3) (T := TX3) (N := 11) (ci := 3) hC hM (c_X3_writeRecord l hl0 D cs h H.size x aR aO aH aT rt ta hK (ta i) (hK.kta hi) 1) (cwV 2 hC.1.2.2.2.2 (tb_V mb_282 mb_283 mb_8 mb_36 mb_284) rfl rfl rfl (by decide +kernel) ⟨Nat.le_of_ble_eq_true rfl, Nat.le_of_ble_eq_true rfl⟩) (th_at (h := h) kx0) rfl rfl rfl hl.1 (Nat.le_of_ble_eq_true rfl) dX3_begin_8 ⟨Nat.le_of_ble_eq_true rfl, Nat.le_of_ble_eq_true rfl⟩ (fun E ce q9 g9 H locs hp9 hM hce hcv hcl => ?_) (fun v9 g9 H locs hp9 hM => ?_)
  · obtain ⟨h9, rfl, rfl, rfl, hw⟩ := hp9
    exact mw_out hM htab hlk hce hcv hcl (Nat.le_of_ble_eq_true rfl) (Nat.le_of_ble_eq_true rfl) ⟨_, rfl, rfl, Or.inr ⟨rfl, ⟨i, hi, hi0⟩, hw⟩⟩
  obtain ⟨h8, rfl, hp9⟩ := hp9
  obtain ⟨rfl, rfl, hw⟩ := hp9
  refine W.eq (g2 := F0 m 11 ls []) rfl ?_
  refine lv_aload_n hx hb dX3_begin_11 rfl (lv_at hl 1 rfl) ?_
  refine lv_dup hx hb dX3_begin_12 rfl ?_
  refine gi_0_9 (index := 39) hC hM kx0 mb_133 dX3_begin_13 ?_
  rw [show (th_ui h (ta i) 1 (h.2.1 (ta i) 1 + 1)).2.1 x 9 = h.2.1 x 9 from th_ui_n _ _ _ _ (th_kne hK.kx (hK.kta hi) (by decide))]
  refine lv_iconst (v := 1) hx hb dX3_begin_16 (by decide) ?_
  refine lv_iadd hx hb dX3_begin_17 ?_
  refine pu_0_9 (index := 39) (v := (h.2.1 x 9) + 1) hC hM kx0 mb_133 dX3_begin_18 (fun H locs hM => ?_)
  refine lv_aload_n hx hb dX3_begin_21 rfl (lv_at hl 0 rfl) ?_
  refine lv_aload_n hx hb dX3_begin_22 rfl (lv_at hl 1 rfl) ?_
  refine gi_0_9 (index := 39) hC hM kx0 mb_133 dX3_begin_23 ?_
  rw [show (th_ui (th_ui h (ta i) 1 (h.2.1 (ta i) 1 + 1)) x 9 ((h.2.1 x 9) + 1)).2.1 x 9 = h.2.1 x 9 + 1 from th_ui_s _ _ _ _]
  refine pu_1_0 (index := 43) (v := h.2.1 x 9 + 1) hC hM kti mb_117 dX3_begin_26 (fun H locs hM => ?_)
  refine lv_aload_n hx hb dX3_begin_29 rfl (lv_at hl 1 rfl) ?_
  refine gi_0_9 (index := 39) hC hM kx0 mb_133 dX3_begin_30 ?_
  rw [show (th_ui (th_ui (th_ui h (ta i) 1 (h.2.1 (ta i) 1 + 1)) x 9 ((h.2.1 x 9) + 1)) (ta i) 0 (h.2.1 x 9 + 1)).2.1 x 9 = h.2.1 x 9 + 1 from (th_ui_n _ _ _ _ (th_kne hK.kx (hK.kta hi) (by decide))).trans (th_ui_s _ _ _ _)]
  refine mw_iret hC hM hr hlk dX3_begin_33 (Nat.le_of_ble_eq_true rfl) (Nat.le_of_ble_eq_true rfl) ⟨_, rfl, ?_⟩
  exact ⟨i, hi, hi0, hw, rfl, rfl⟩

-- StableHeap.fields
set_option maxHeartbeats 4000000 in
set_option maxRecDepth 100000 in
theorem c_X3_fields (l : Launch) (hl0 : l.stackTraces = false) (D : va_G) (cs : Nat → ClassId) (h : th_S) (sz : Nat) (x aR aO aH aT : Nat) (rt ta : Nat → Nat) (hK : sh_K x aR aO aH aT rt ta h) (n : Nat) (hO : sh_O x aO n h) (k : Int32) : th_M l yX3_fields wsX3_fields { frames := 7, cells := 1, slots := 6, locals := 112 } D cs h sz [.ref x, .int k] (fun v h' => h = h' ∧ ∃ a pa np, sh_ob aO n h k a ∧ h.2.2 a 1 = some pa ∧ h.1 pa = some (6, np) ∧ v = some (.int (nI np))) (fun E h' => E = "java/util/NoSuchElementException" ∧ h = h' ∧ sh_no aO n h k) := by
  refine mw_ofW (cc := cX3_fields) (maxL := 2) (ret := (some .int)) (by decide) rfl (fun w h => List.mem_cons_of_mem _ h) th_cd (Nat.le_of_ble_eq_true rfl) ?_
  intro p e s m below meth c hsz hC hr hlk hnm htab hM ls hl
  have hC : th_C D cs h p m c cX3_fields 2 s [.ref x, .int k] RX3 := hC
  have hx := hC.1.1
  have hb := hC.1.2.1
  have kx0 : h.1 x = some (0, 0) := hK.kx
  have hl : lv_has ls 2 [(0, .ref x), (1, .int k)] := hl
  refine lv_aload_n hx hb dX3_fields_0 rfl (lv_at hl 0 rfl) ?_
  refine lv_iload_n hx hb dX3_fields_1 rfl (lv_at hl 1 rfl) ?_
  refine mw_callV (As := [.int k]) (rest := []) (n := 1) (C := RX3) (T := TX3) (N := 11) (ci := 3) hC hM (c_X3_objectWith l hl0 D cs h s.heap.size x aR aO aH aT rt ta hK n hO k) (cwV 1 hC.1.2.2.2.2 (tb_V mb_347 mb_348 mb_10 mb_36 mb_349) rfl rfl rfl (by decide +kernel) ⟨Nat.le_of_ble_eq_true rfl, Nat.le_of_ble_eq_true rfl⟩) (th_at (h := h) kx0) rfl rfl rfl hl.1 (Nat.le_of_ble_eq_true rfl) dX3_fields_2 ⟨Nat.le_of_ble_eq_true rfl, Nat.le_of_ble_eq_true rfl⟩ (fun E ce q9 g9 H locs hp9 hM hce hcv hcl => ?_) (fun v9 g9 H locs hp9 hM => ?_)
  · obtain ⟨h9, rfl, rfl, rfl, hf⟩ := hp9
    exact mw_out hM htab hlk hce hcv hcl (Nat.le_of_ble_eq_true rfl) (Nat.le_of_ble_eq_true rfl) ⟨_, rfl, rfl, rfl, hf⟩
  obtain ⟨h2, rfl, hp9⟩ := hp9
  obtain ⟨rfl, a, rfl, ho⟩ := hp9
  obtain ⟨pa, np, hpa, hnp, hn4⟩ := hK.lk (ho.k hO)
  have kao : h.1 a = some (2, 0) := ho.k hO
  refine W.eq (g2 := F0 m 5 ls [.ref a]) rfl ?_
  refine gr_2_1 (index := 103) hC hM kao mb_98 dX3_fields_5 hpa ?_
  refine an_6 hC hM hnp dX3_fields_8 ?_
  refine mw_iret hC hM hr hlk dX3_fields_9 (Nat.le_of_ble_eq_true rfl) (Nat.le_of_ble_eq_true rfl) ⟨_, rfl, ?_⟩
  exact ⟨rfl, a, pa, np, ho, hpa, hnp, rfl⟩

-- StableHeap.lockedBy
set_option maxHeartbeats 4000000 in
set_option maxRecDepth 100000 in
theorem c_X3_lockedBy (l : Launch) (hl0 : l.stackTraces = false) (D : va_G) (cs : Nat → ClassId) (h : th_S) (sz : Nat) (x aR aO aH aT : Nat) (rt ta : Nat → Nat) (hK : sh_K x aR aO aH aT rt ta h) (n : Nat) (hO : sh_O x aO n h) (k o : Int32) : th_M l yX3_lockedBy wsX3_lockedBy { frames := 7, cells := 1, slots := 6, locals := 112 } D cs h sz [.ref x, .int k, .int o] (fun v h' => h = h' ∧ ((¬ k = 0 ∧ ∃ a, sh_ob aO n h k a ∧ v = some (.int (h.2.1 a 2))) ∨ (k = 0 ∧ ∃ j, j < 4 ∧ o = nI j ∧ v = some (.int (h.2.1 (rt j) 2))))) (fun E h' => E = "java/util/NoSuchElementException" ∧ h = h' ∧ ((¬ k = 0 ∧ sh_no aO n h k) ∨ (k = 0 ∧ (o < 0 ∨ 4 ≤ o)))) := by
  refine mw_ofW (cc := cX3_lockedBy) (maxL := 3) (ret := (some .int)) (by decide) rfl (fun w h => List.mem_cons_of_mem _ h) th_cd (Nat.le_of_ble_eq_true rfl) ?_
  intro p e s m below meth c hsz hC hr hlk hnm htab hM ls hl
  have hC : th_C D cs h p m c cX3_lockedBy 3 s [.ref x, .int k, .int o] RX3 := hC
  have hx := hC.1.1
  have hb := hC.1.2.1
  have kx0 : h.1 x = some (0, 0) := hK.kx
  have hl : lv_has ls 3 [(0, .ref x), (1, .int k), (2, .int o)] := hl
  refine lv_iload_n hx hb dX3_lockedBy_0 rfl (lv_at hl 1 rfl) ?_
  refine lv_if_eq (tgt := 13) hx hb dX3_lockedBy_1 (by decide) (fun c1 => ?_) (fun c1 => ?_)
  · refine lv_iload_n hx hb dX3_lockedBy_13 rfl (lv_at hl 2 rfl) ?_
    refine lv_if_lt (tgt := 22) hx hb dX3_lockedBy_14 (by decide) (fun c14 => ?_) (fun c14 => ?_)
    · refine mw_throwN (Y := "java/lang/RuntimeException") (cls := "java/util/NoSuchElementException") (names := ["java/lang/Exception"]) (ik := 162) (is := 164) (ic := 166) hC hM htab hlk hl0 sx_164 (by decide +kernel) (by decide +kernel) (by decide +kernel) mb_311 mb_46 tg_166 tn_166 to_166 hl.1 dX3_lockedBy_22 dX3_lockedBy_25 dX3_lockedBy_26 dX3_lockedBy_28 dX3_lockedBy_31 (Nat.le_of_ble_eq_true rfl) (Nat.le_of_ble_eq_true rfl) (Nat.le_of_ble_eq_true rfl) (Nat.le_of_ble_eq_true rfl) (Nat.le_of_ble_eq_true rfl) (Nat.le_of_ble_eq_true rfl) ⟨_, rfl, ?_⟩
      exact ⟨rfl, rfl, Or.inr ⟨c1, by first | exact Or.inl c14 | exact Or.inr (Int32.not_lt.mp c19)⟩⟩
    · refine lv_iload_n hx hb dX3_lockedBy_17 rfl (lv_at hl 2 rfl) ?_
      refine lv_iconst (v := 4) hx hb dX3_lockedBy_18 (by decide) ?_
      refine lv_icmp_lt (tgt := 32) hx hb dX3_lockedBy_19 (by decide) (fun c19 => ?_) (fun c19 => ?_)
      · obtain ⟨j, hj, hkj⟩ : ∃ j, j < 4 ∧ o = nI j := by
          rcases pk_ix o (n := 4) (by omega) with h1 | h1 | h1
          · exact absurd h1 c14
          · exact absurd h1 (Int32.not_le.mpr c19)
          · exact h1
        refine lv_aload_n hx hb dX3_lockedBy_32 rfl (lv_at hl 0 rfl) ?_
        refine gr_0_0 (index := 11) hC hM kx0 mb_124 dX3_lockedBy_33 hK.xR ?_
        refine lv_iload_n hx hb dX3_lockedBy_36 rfl (lv_at hl 2 rfl) ?_
        refine al_4 (i := j) hC hM hK.kR (hkj) (hj) (by first | decide | omega) (hK.rr hj) dX3_lockedBy_37 ?_
        refine gi_2_2 (index := 71) hC hM (hK.krt hj) mb_100 dX3_lockedBy_38 ?_
        refine mw_iret hC hM hr hlk dX3_lockedBy_41 (Nat.le_of_ble_eq_true rfl) (Nat.le_of_ble_eq_true rfl) ⟨_, rfl, ?_⟩
        exact ⟨rfl, Or.inr ⟨c1, j, hj, hkj, rfl⟩⟩
      · refine mw_throwN (Y := "java/lang/RuntimeException") (cls := "java/util/NoSuchElementException") (names := ["java/lang/Exception"]) (ik := 162) (is := 164) (ic := 166) hC hM htab hlk hl0 sx_164 (by decide +kernel) (by decide +kernel) (by decide +kernel) mb_311 mb_46 tg_166 tn_166 to_166 hl.1 dX3_lockedBy_22 dX3_lockedBy_25 dX3_lockedBy_26 dX3_lockedBy_28 dX3_lockedBy_31 (Nat.le_of_ble_eq_true rfl) (Nat.le_of_ble_eq_true rfl) (Nat.le_of_ble_eq_true rfl) (Nat.le_of_ble_eq_true rfl) (Nat.le_of_ble_eq_true rfl) (Nat.le_of_ble_eq_true rfl) ⟨_, rfl, ?_⟩
        exact ⟨rfl, rfl, Or.inr ⟨c1, by first | exact Or.inl c14 | exact Or.inr (Int32.not_lt.mp c19)⟩⟩
  · refine lv_aload_n hx hb dX3_lockedBy_4 rfl (lv_at hl 0 rfl) ?_
    refine lv_iload_n hx hb dX3_lockedBy_5 rfl (lv_at hl 1 rfl) ?_
    refine mw_callV (As := [.int k]) (rest := []) (n := 1) (C := RX3) (T := TX3) (N := 11) (ci := 3) hC hM (c_X3_objectWith l hl0 D cs h s.heap.size x aR aO aH aT rt ta hK n hO k) (cwV 1 hC.1.2.2.2.2 (tb_V mb_347 mb_348 mb_10 mb_36 mb_349) rfl rfl rfl (by decide +kernel) ⟨Nat.le_of_ble_eq_true rfl, Nat.le_of_ble_eq_true rfl⟩) (th_at (h := h) kx0) rfl rfl rfl hl.1 (Nat.le_of_ble_eq_true rfl) dX3_lockedBy_6 ⟨Nat.le_of_ble_eq_true rfl, Nat.le_of_ble_eq_true rfl⟩ (fun E ce q9 g9 H locs hp9 hM hce hcv hcl => ?_) (fun v9 g9 H locs hp9 hM => ?_)
    · obtain ⟨h9, rfl, rfl, rfl, hf⟩ := hp9
      exact mw_out hM htab hlk hce hcv hcl (Nat.le_of_ble_eq_true rfl) (Nat.le_of_ble_eq_true rfl) ⟨_, rfl, rfl, rfl, Or.inl ⟨c1, hf⟩⟩
    obtain ⟨h6, rfl, hp9⟩ := hp9
    obtain ⟨rfl, a, rfl, ho⟩ := hp9
    obtain ⟨pa, np, hpa, hnp, hn4⟩ := hK.lk (ho.k hO)
    have kao : h.1 a = some (2, 0) := ho.k hO
    refine W.eq (g2 := F0 m 9 ls [.ref a]) rfl ?_
    refine gi_2_2 (index := 71) hC hM kao mb_100 dX3_lockedBy_9 ?_
    refine mw_iret hC hM hr hlk dX3_lockedBy_12 (Nat.le_of_ble_eq_true rfl) (Nat.le_of_ble_eq_true rfl) ⟨_, rfl, ?_⟩
    exact ⟨rfl, Or.inl ⟨c1, a, ho, rfl⟩⟩

-- StableHeap.checkpoint
set_option maxHeartbeats 4000000 in
set_option maxRecDepth 100000 in
theorem c_X3_checkpoint (l : Launch) (hl0 : l.stackTraces = false) (D : va_G) (cs : Nat → ClassId) (h : th_S) (sz : Nat) (x aR aO aH aT : Nat) (rt ta : Nat → Nat) (hK : sh_K x aR aO aH aT rt ta h) : th_M l yX3_checkpoint wsX3_checkpoint { frames := 1, cells := 0, slots := 0, locals := 22 } D cs h sz [.ref x] (fun v h' => h' = th_ui h x 8 0 ∧ v = some (.int (sh_wl x ta (th_ui h x 8 0)))) (fun E h' => False) := by
  refine mw_ofW (cc := cX3_checkpoint) (maxL := 1) (ret := (some .int)) (by decide) rfl (fun w h => List.mem_cons_of_mem _ h) th_cd (Nat.le_of_ble_eq_true rfl) ?_
  intro p e s m below meth c hsz hC hr hlk hnm htab hM ls hl
  have hC : th_C D cs h p m c cX3_checkpoint 1 s [.ref x] RX3 := hC
  have hx := hC.1.1
  have hb := hC.1.2.1
  have kx0 : h.1 x = some (0, 0) := hK.kx
  have hl : lv_has ls 1 [(0, .ref x)] := hl
  refine lv_aload_n hx hb dX3_checkpoint_0 rfl (lv_at hl 0 rfl) ?_
  refine lv_iconst (v := 0) hx hb dX3_checkpoint_1 (by decide) ?_
  refine pu_0_8 (index := 131) (v := 0) hC hM kx0 mb_132 dX3_checkpoint_2 (fun H locs hM => ?_)
  refine lv_aload_n hx hb dX3_checkpoint_5 rfl (lv_at hl 0 rfl) ?_
  refine mw_callV (As := []) (rest := []) (n := 0) (C := RX3) (T := TX3) (N := 11) (ci := 3) hC hM (c_X3_wordsInLog l hl0 D cs (th_ui h x 8 0) H.size x aR aO aH aT rt ta (hK.uk hK.kx (by decide))) (cwV 0 hC.1.2.2.2.2 (tb_V mb_162 mb_163 mb_0 mb_36 mb_164) rfl rfl rfl (by decide +kernel) ⟨Nat.le_of_ble_eq_true rfl, Nat.le_of_ble_eq_true rfl⟩) (th_at (h := th_ui h x 8 0) kx0) rfl rfl rfl hl.1 (Nat.le_of_ble_eq_true rfl) dX3_checkpoint_6 ⟨Nat.le_of_ble_eq_true rfl, Nat.le_of_ble_eq_true rfl⟩ (fun E ce q9 g9 H locs hp9 hM hce hcv hcl => ?_) (fun v9 g9 H locs hp9 hM => ?_)
  · exact (hp9.elim fun _ h9 => h9.2.elim)
  obtain ⟨h6, rfl, hp9⟩ := hp9
  obtain ⟨rfl, rfl⟩ := hp9
  refine W.eq (g2 := F0 m 9 ls [.int (sh_wl x ta (th_ui h x 8 0))]) rfl ?_
  refine mw_iret hC hM hr hlk dX3_checkpoint_9 (Nat.le_of_ble_eq_true rfl) (Nat.le_of_ble_eq_true rfl) ⟨_, rfl, ?_⟩
  exact ⟨rfl, rfl⟩
end
section
/-! a place at the end of its transaction; a lockable's unlocking -/
def pl_end (z : Int32) (h : th_S) (q : Nat) : th_S := pl_forget (if z = 0 then pl_back h q else h) q
theorem pl_back_k (h : th_S) (q : Nat) : (pl_back h q).1 = h.1 := by unfold pl_back; split <;> rfl
theorem pl_back_n (h : th_S) {q b : Nat} (hb : b ≠ q) : (pl_back h q).2.1 b = h.2.1 b ∧ (pl_back h q).2.2 b = h.2.2 b := by
  unfold pl_back
  split
  · exact ⟨rfl, rfl⟩
  · exact ⟨by simp [th_ur, th_ui, va_up, hb], by simp [th_ur, th_ui, va_up, hb]⟩
theorem pl_forget_n (h : th_S) {q b : Nat} (hb : b ≠ q) : (pl_forget h q).2.1 b = h.2.1 b ∧ (pl_forget h q).2.2 b = h.2.2 b :=
  ⟨by simp [pl_forget, th_ur, th_ui, va_up, hb], by simp [pl_forget, th_ur, th_ui, va_up, hb]⟩
theorem pl_end_k (z : Int32) (h : th_S) (q : Nat) : (pl_end z h q).1 = h.1 := by
  unfold pl_end
  show (if z = 0 then pl_back h q else h).1 = h.1
  split
  · exact pl_back_k h q
  · rfl
theorem pl_end_n (z : Int32) (h : th_S) {q b : Nat} (hb : b ≠ q) : (pl_end z h q).2.1 b = h.2.1 b ∧ (pl_end z h q).2.2 b = h.2.2 b := by
  unfold pl_end
  obtain ⟨e1, e2⟩ := pl_forget_n (if z = 0 then pl_back h q else h) hb
  rw [e1, e2]
  split
  · exact pl_back_n h hb
  · exact ⟨rfl, rfl⟩
section PLE
variable {x aR aO aH aT : Nat} {rt ta : Nat → Nat} {h : th_S}
theorem pl_back_K (k : sh_K x aR aO aH aT rt ta h) {q : Nat} (hq : h.1 q = some (3, 0)) : sh_K x aR aO aH aT rt ta (pl_back h q) := by
  unfold pl_back
  split
  · exact k
  · exact ((k.ui (fun _ _ => (k.pl hq).2.2.1)).ui (fun _ hh => absurd hh (by decide))).urP hq (fun b hb => (k.pl hq).2.2.2.2 b hb)
theorem pl_forget_K (k : sh_K x aR aO aH aT rt ta h) {q : Nat} (hq : h.1 q = some (3, 0)) : sh_K x aR aO aH aT rt ta (pl_forget h q) :=
  (k.ui (fun _ _ => Or.inl rfl)).urP hq (fun b hb => nomatch hb)
theorem pl_end_K (k : sh_K x aR aO aH aT rt ta h) (z : Int32) {q : Nat} (hq : h.1 q = some (3, 0)) : sh_K x aR aO aH aT rt ta (pl_end z h q) := by
  unfold pl_end
  by_cases hz : z = 0
  · rw [if_pos hz]
    exact pl_forget_K (pl_back_K k hq) (by rw [pl_back_k]; exact hq)
  · rw [if_neg hz]
    exact pl_forget_K k hq
theorem pl_rem_K (k : sh_K x aR aO aH aT rt ta h) {q : Nat} (hq : h.1 q = some (3, 0)) : sh_K x aR aO aH aT rt ta (pl_rem h q) := by
  unfold pl_rem
  split
  · exact (((k.ui (fun _ _ => Or.inr rfl)).ui (fun _ _ => (k.pl hq).1)).ui (fun _ hh => absurd hh (by decide))).urP hq (fun b hb => (k.pl hq).2.2.2.1 b hb)
  · exact k
theorem pl_num_K (k : sh_K x aR aO aH aT rt ta h) {q : Nat} (hq : h.1 q = some (3, 0)) (v : Int32) : sh_K x aR aO aH aT rt ta (pl_num h q v) :=
  (((pl_rem_K k hq).ui (fun _ _ => Or.inl rfl)).ui (fun _ hh => absurd hh (by decide))).urP (by rw [show (th_ui (th_ui (pl_rem h q) q 0 0) q 1 v).1 = h.1 from pl_rem_k h q]; exact hq) (fun b hb => nomatch hb)
theorem pl_ref_K (k : sh_K x aR aO aH aT rt ta h) {q : Nat} (hq : h.1 q = some (3, 0)) {r : Option Nat} (hr : ∀ b, r = some b → h.1 b = some (2, 0)) : sh_K x aR aO aH aT rt ta (pl_ref h q r) :=
  (((pl_rem_K k hq).ui (fun _ _ => Or.inr rfl)).ui (fun _ hh => absurd hh (by decide))).urP (by rw [show (th_ui (th_ui (pl_rem h q) q 0 1) q 1 0).1 = h.1 from pl_rem_k h q]; exact hq) (fun b hb => by rw [show (th_ui (th_ui (pl_rem h q) q 0 1) q 1 0).1 = h.1 from pl_rem_k h q]; exact hr b hb)
end PLE
def ul_it (z : Int32) (pp : Nat → Nat) (h : th_S) : Nat → th_S
  | 0 => h
  | j + 1 => pl_end z (ul_it z pp h j) (pp j)
theorem ul_it_k (z : Int32) (pp : Nat → Nat) (h : th_S) : ∀ n, (ul_it z pp h n).1 = h.1
  | 0 => rfl
  | n + 1 => (pl_end_k z _ _).trans (ul_it_k z pp h n)
theorem ul_it_n (z : Int32) (pp : Nat → Nat) (h : th_S) {b : Nat} : ∀ n, (∀ j, j < n → b ≠ pp j) → (ul_it z pp h n).2.1 b = h.2.1 b ∧ (ul_it z pp h n).2.2 b = h.2.2 b
  | 0, _ => ⟨rfl, rfl⟩
  | n + 1, hb => by
    obtain ⟨e1, e2⟩ := pl_end_n z (ul_it z pp h n) (hb n (Nat.lt_succ_self n))
    obtain ⟨f1, f2⟩ := ul_it_n z pp h n (fun j hj => hb j (Nat.lt_succ_of_lt hj))
    exact ⟨e1.trans f1, e2.trans f2⟩
theorem ul_it_K {x aR aO aH aT : Nat} {rt ta : Nat → Nat} {h : th_S} (k : sh_K x aR aO aH aT rt ta h) (z : Int32) (pp : Nat → Nat) : ∀ n, (∀ j, j < n → h.1 (pp j) = some (3, 0)) → sh_K x aR aO aH aT rt ta (ul_it z pp h n)
  | 0, _ => k
  | n + 1, hp => pl_end_K (ul_it_K k z pp n (fun j hj => hp j (Nat.lt_succ_of_lt hj))) z (by rw [ul_it_k]; exact hp n (Nat.lt_succ_self n))
def ul_h (z k : Int32) (h : th_S) (a : Nat) : th_S := if h.2.1 a 2 = k then ul_it z (vw_pp h a) (th_ui h a 2 0) (vw_np h a) else h
def ul_c (k : Int32) (h : th_S) (a : Nat) : Int32 := if h.2.1 a 2 = k then 1 else 0
section ULH
variable {x aR aO aH aT : Nat} {rt ta : Nat → Nat} {h : th_S}
theorem ul_h_k (z k : Int32) (h : th_S) (a : Nat) : (ul_h z k h a).1 = h.1 := by
  unfold ul_h
  split
  · exact ul_it_k z _ _ _
  · rfl
theorem ul_h_K (K : sh_K x aR aO aH aT rt ta h) (z k : Int32) {a : Nat} (ha : h.1 a = some (2, 0)) : sh_K x aR aO aH aT rt ta (ul_h z k h a) := by
  unfold ul_h
  split
  · exact ul_it_K (K.uk ha (by decide)) z _ _ (fun j hj => ((K.vw ha).2.2.2 j hj).2)
  · exact K
/-- of what is no place the references stay; of another thing than a also the ints -/
theorem ul_h_n (K : sh_K x aR aO aH aT rt ta h) (z k : Int32) {a b : Nat} (ha : h.1 a = some (2, 0)) {t : Nat × Nat} (hb : h.1 b = some t) (ht : t ≠ (3, 0)) : (ul_h z k h a).2.2 b = h.2.2 b ∧ (b ≠ a → (ul_h z k h a).2.1 b = h.2.1 b) := by
  unfold ul_h
  split
  · obtain ⟨e1, e2⟩ := ul_it_n z (vw_pp h a) (th_ui h a 2 0) (b := b) (vw_np h a) (fun j hj => th_kne hb ((K.vw ha).2.2.2 j hj).2 ht)
    refine ⟨e2, fun hne => ?_⟩
    rw [e1]
    funext j
    exact th_ui_n _ _ _ _ hne
  · exact ⟨rfl, fun _ => rfl⟩
end ULH
def en_h (z k : Int32) (ob : Nat → Nat) (h : th_S) : Nat → th_S
  | 0 => h
  | j + 1 => ul_h z k (en_h z k ob h j) (ob j)
def en_c (z k : Int32) (ob : Nat → Nat) (c0 : Int32) (h : th_S) : Nat → Int32
  | 0 => c0
  | j + 1 => en_c z k ob c0 h j + ul_c k (en_h z k ob h j) (ob j)
theorem en_h_k (z k : Int32) (ob : Nat → Nat) (h : th_S) : ∀ n, (en_h z k ob h n).1 = h.1
  | 0 => rfl
  | n + 1 => (ul_h_k z k _ _).trans (en_h_k z k ob h n)
section ENH
variable {x aR aO aH aT : Nat} {rt ta : Nat → Nat} {h : th_S}
theorem en_h_K (K : sh_K x aR aO aH aT rt ta h) (z k : Int32) (ob : Nat → Nat) : ∀ n, (∀ j, j < n → h.1 (ob j) = some (2, 0)) → sh_K x aR aO aH aT rt ta (en_h z k ob h n)
  | 0, _ => K
  | n + 1, hp => ul_h_K (en_h_K K z k ob n (fun j hj => hp j (Nat.lt_succ_of_lt hj))) z k (by rw [en_h_k]; exact hp n (Nat.lt_succ_self n))
theorem en_h_n (K : sh_K x aR aO aH aT rt ta h) (z k : Int32) (ob : Nat → Nat) {b : Nat} {t : Nat × Nat} (hb : h.1 b = some t) (ht : t ≠ (3, 0)) : ∀ n, (∀ j, j < n → h.1 (ob j) = some (2, 0)) → (en_h z k ob h n).2.2 b = h.2.2 b ∧ (t ≠ (2, 0) → (en_h z k ob h n).2.1 b = h.2.1 b)
  | 0, _ => ⟨rfl, fun _ => rfl⟩
  | n + 1, hp => by
    have kn : (en_h z k ob h n).1 (ob n) = some (2, 0) := by rw [en_h_k]; exact hp n (Nat.lt_succ_self n)
    obtain ⟨e1, e2⟩ := ul_h_n (en_h_K K z k ob n (fun j hj => hp j (Nat.lt_succ_of_lt hj))) z k kn (b := b) (t := t) (by rw [en_h_k]; exact hb) ht
    obtain ⟨f1, f2⟩ := en_h_n K z k ob hb ht n (fun j hj => hp j (Nat.lt_succ_of_lt hj))
    exact ⟨e1.trans f1, fun h2 => (e2 (fun q => h2 (by rw [q] at hb; exact Option.some.inj (hb.symm.trans (hp n (Nat.lt_succ_self n)))))).trans (f2 h2)⟩
end ENH
def vw_ob (aO : Nat) (h : th_S) (i : Nat) : Nat := (h.2.2 aO i).getD 0
theorem sh_O.ob {x aO n : Nat} {h : th_S} (o : sh_O x aO n h) {i : Nat} (hi : i < n) : h.2.2 aO i = some (vw_ob aO h i) ∧ h.1 (vw_ob aO h i) = some (2, 0) := by
  obtain ⟨a, e, k⟩ := o.at hi
  have e1 : vw_ob aO h i = a := by simp [vw_ob, e]
  rw [e1]
  exact ⟨e, k⟩
/-- the end of the transaction at t -/
def sh_eh (aO n : Nat) (rt : Nat → Nat) (z : Int32) (t : Nat) (h : th_S) : th_S :=
  th_ui (th_ui (en_h z (h.2.1 t 0) (vw_ob aO h) (en_h z (h.2.1 t 0) rt h 4) n) t 0 0) t 1 0
def sh_ec (aO n : Nat) (rt : Nat → Nat) (z : Int32) (t : Nat) (h : th_S) : Int32 :=
  en_c z (h.2.1 t 0) (vw_ob aO h) (en_c z (h.2.1 t 0) rt 0 h 4) (en_h z (h.2.1 t 0) rt h 4) n
end
section
-- the loop at 17 of StableHeap$Lockable.unlock
set_option maxHeartbeats 4000000 in
set_option maxRecDepth 100000 in
theorem lo_X0_unlock_17 {l : Launch} (hl0 : l.stackTraces = false) {D : va_G} {cs : Nat → ClassId} {h : th_S} (x aR aO aH aT : Nat) (rt ta : Nat → Nat) (hK : sh_K x aR aO aH aT rt ta h) (a : Nat) (ha : h.1 a = some (2, 0)) (k z : Int32) (hown : h.2.1 a 2 = k) {p : Program} {e : Env} {s : State} {m : MethodId} {below : List Frame} {meth : Method} {c : Code} (hC : th_C D cs h p m c cX0_unlock 4 s [.ref a, .int k, .int z] RX0) (hr : meth.sig.returnType = some .int) (hlk : meth.locks = false) (htab : ∀ x ∈ c.exceptionTable.toList, False) : ∀ (q : Nat) (i : Nat) (H : Heap) (locs : List Loc) (ls : Array Slot), (i + q = vw_np h a) → th_H D cs h s (ul_it z (vw_pp h a) (th_ui h a 2 0) i) H locs → lv_has ls 4 [(0, .ref a), (1, .int k), (2, .int z), (3, .int (nI i))] → W p l e { frames := 1, cells := 0, slots := 0, locals := 20 } s m [.ref a, .int k, .int z].toArray below meth c H locs 0 0 (th_Q below D cs h s [.ref a, .int k, .int z] (fun v h' => v = some (.int (ul_c k h a)) ∧ h' = ul_h z k h a) (fun E h' => False) 0 0) (F0 m 17 ls []) := by
  have hx := hC.1.1
  have hb := hC.1.2.1
  intro q
  induction q with
  | zero =>
    intro i H locs ls hin hM hl
    have hv := hK.vw ha
    have hg1 : (ul_it z (vw_pp h a) (th_ui h a 2 0) i).1 = h.1 := ul_it_k z (vw_pp h a) (th_ui h a 2 0) i
    have kga : (ul_it z (vw_pp h a) (th_ui h a 2 0) i).1 a = some (2, 0) := by rw [hg1]; exact ha
    have kgp : (ul_it z (vw_pp h a) (th_ui h a 2 0) i).1 (vw_pa h a) = some (6, vw_np h a) := by rw [hg1]; exact hv.2.1
    have nea : ∀ j, j < i → a ≠ vw_pp h a j := fun j hj => th_kne ha (hv.2.2.2 j (by omega)).2 (by decide)
    have nep : ∀ j, j < i → vw_pa h a ≠ vw_pp h a j := fun j hj => th_kne hv.2.1 (hv.2.2.2 j (by omega)).2 (by simp)
    have rga : (ul_it z (vw_pp h a) (th_ui h a 2 0) i).2.2 a 1 = some (vw_pa h a) := by rw [(ul_it_n z (vw_pp h a) (th_ui h a 2 0) i nea).2]; exact hv.1
    have rgp : ∀ j, j < vw_np h a → (ul_it z (vw_pp h a) (th_ui h a 2 0) i).2.2 (vw_pa h a) j = some (vw_pp h a j) := fun j hj => by rw [(ul_it_n z (vw_pp h a) (th_ui h a 2 0) i nep).2]; exact (hv.2.2.2 j hj).1
    have hKg : sh_K x aR aO aH aT rt ta (ul_it z (vw_pp h a) (th_ui h a 2 0) i) := ul_it_K (hK.uk ha (by decide)) z (vw_pp h a) i (fun j hj => (hv.2.2.2 j (by omega)).2)
    refine lv_iload_n hx hb dX0_unlock_17 rfl (lv_at hl 3 rfl) ?_
    refine lv_aload_n hx hb dX0_unlock_18 rfl (lv_at hl 0 rfl) ?_
    refine gr_2_1 (index := 15) hC hM kga mb_97 dX0_unlock_19 rga ?_
    refine an_6 hC hM kgp dX0_unlock_22 ?_
    refine lv_icmp_ge (tgt := 54) hx hb dX0_unlock_23 (by decide) (fun c23 => ?_) (fun c23 => ?_)
    · refine lv_iconst (v := 1) hx hb dX0_unlock_54 (by decide) ?_
      refine mw_iret hC hM hr hlk dX0_unlock_55 (Nat.le_of_ble_eq_true rfl) (Nat.le_of_ble_eq_true rfl) ⟨_, rfl, ?_⟩
      exact ⟨by simp [ul_c, hown], by rw [ul_h, if_pos hown, show vw_np h a = i by omega]⟩
    · exact absurd (nI_le (show vw_np h a ≤ i by omega) (by have := hv.2.2.1; omega)) c23
  | succ q ih =>
    intro i H locs ls hin hM hl
    have hv := hK.vw ha
    have hg1 : (ul_it z (vw_pp h a) (th_ui h a 2 0) i).1 = h.1 := ul_it_k z (vw_pp h a) (th_ui h a 2 0) i
    have kga : (ul_it z (vw_pp h a) (th_ui h a 2 0) i).1 a = some (2, 0) := by rw [hg1]; exact ha
    have kgp : (ul_it z (vw_pp h a) (th_ui h a 2 0) i).1 (vw_pa h a) = some (6, vw_np h a) := by rw [hg1]; exact hv.2.1
    have nea : ∀ j, j < i → a ≠ vw_pp h a j := fun j hj => th_kne ha (hv.2.2.2 j (by omega)).2 (by decide)
    have nep : ∀ j, j < i → vw_pa h a ≠ vw_pp h a j := fun j hj => th_kne hv.2.1 (hv.2.2.2 j (by omega)).2 (by simp)
    have rga : (ul_it z (vw_pp h a) (th_ui h a 2 0) i).2.2 a 1 = some (vw_pa h a) := by rw [(ul_it_n z (vw_pp h a) (th_ui h a 2 0) i nea).2]; exact hv.1
    have rgp : ∀ j, j < vw_np h a → (ul_it z (vw_pp h a) (th_ui h a 2 0) i).2.2 (vw_pa h a) j = some (vw_pp h a j) := fun j hj => by rw [(ul_it_n z (vw_pp h a) (th_ui h a 2 0) i nep).2]; exact (hv.2.2.2 j hj).1
    have hKg : sh_K x aR aO aH aT rt ta (ul_it z (vw_pp h a) (th_ui h a 2 0) i) := ul_it_K (hK.uk ha (by decide)) z (vw_pp h a) i (fun j hj => (hv.2.2.2 j (by omega)).2)
    have hi9 : i < vw_np h a := by omega
    have kgq : (ul_it z (vw_pp h a) (th_ui h a 2 0) i).1 (vw_pp h a i) = some (3, 0) := by rw [hg1]; exact (hv.2.2.2 i hi9).2
    have naq : a ≠ vw_pp h a i := th_kne ha (hv.2.2.2 i hi9).2 (by decide)
    have npq : vw_pa h a ≠ vw_pp h a i := th_kne hv.2.1 (hv.2.2.2 i hi9).2 (by simp)
    refine lv_iload_n hx hb dX0_unlock_17 rfl (lv_at hl 3 rfl) ?_
    refine lv_aload_n hx hb dX0_unlock_18 rfl (lv_at hl 0 rfl) ?_
    refine gr_2_1 (index := 15) hC hM kga mb_97 dX0_unlock_19 rga ?_
    refine an_6 hC hM kgp dX0_unlock_22 ?_
    refine lv_icmp_ge (tgt := 54) hx hb dX0_unlock_23 (by decide) (fun c23 => ?_) (fun c23 => ?_)
    · exact absurd c23 (nI_ge (by omega) (by have := hv.2.2.1; omega))
    · refine lv_iload_n hx hb dX0_unlock_26 rfl (lv_at hl 2 rfl) ?_
      refine lv_if_ne (tgt := 39) hx hb dX0_unlock_27 (by decide) (fun c27 => ?_) (fun c27 => ?_)
      · refine lv_aload_n hx hb dX0_unlock_39 rfl (lv_at hl 0 rfl) ?_
        refine gr_2_1 (index := 15) hC hM kga mb_97 dX0_unlock_40 rga ?_
        refine lv_iload_n hx hb dX0_unlock_43 rfl (lv_at hl 3 rfl) ?_
        refine al_6 (i := i) hC hM kgp (rfl) (hi9) (by first | decide | omega) (rgp i hi9) dX0_unlock_44 ?_
        refine mw_callV (As := []) (rest := []) (n := 0) (C := RX1) (T := TX1) (N := 7) (ci := 1) hC hM (c_X1_forgetFormer l hl0 D cs (ul_it z (vw_pp h a) (th_ui h a 2 0) i) H.size (vw_pp h a i) kgq) (cwV 0 hC.1.2.2.2.2 (tb_V mb_184 mb_185 mb_186 mb_38 mb_187) rfl rfl rfl (by decide +kernel) ⟨Nat.le_of_ble_eq_true rfl, Nat.le_of_ble_eq_true rfl⟩) (th_at (h := ul_it z (vw_pp h a) (th_ui h a 2 0) i) kgq) rfl rfl rfl hl.1 (Nat.le_of_ble_eq_true rfl) dX0_unlock_45 ⟨Nat.le_of_ble_eq_true rfl, Nat.le_of_ble_eq_true rfl⟩ (fun E ce q9 g9 H locs hp9 hM hce hcv hcl => ?_) (fun v9 g9 H locs hp9 hM => ?_)
        · exact (hp9.elim fun _ h9 => h9.2.elim)
        obtain ⟨h45, rfl, hp9⟩ := hp9
        obtain ⟨rfl, rfl⟩ := hp9
        refine W.eq (g2 := F0 m 48 ls []) rfl ?_
        refine lv_iinc (v := nI (i + 1)) (lv' := [(3, .int (nI (i + 1))), (0, .ref a), (1, .int k), (2, .int z)]) hx hb dX0_unlock_48 hl (k := 3) rfl (by exact nI_1 i) (by first | decide | omega) rfl (fun ls hl => ?_)
        refine lv_goto (tgt := 17) hx hb dX0_unlock_51 (by decide) ?_
        exact ih (i + 1) H locs ls (by omega) (by
          show th_H D cs h s (pl_end z _ _) H locs
          unfold pl_end
          first | (rw [if_pos c27]; exact hM) | (rw [if_neg c27]; exact hM)) (lv_sub hl [1, 2, 3, 0] rfl)
      · refine lv_aload_n hx hb dX0_unlock_30 rfl (lv_at hl 0 rfl) ?_
        refine gr_2_1 (index := 15) hC hM kga mb_97 dX0_unlock_31 rga ?_
        refine lv_iload_n hx hb dX0_unlock_34 rfl (lv_at hl 3 rfl) ?_
        refine al_6 (i := i) hC hM kgp (rfl) (hi9) (by first | decide | omega) (rgp i hi9) dX0_unlock_35 ?_
        refine mw_callV (As := []) (rest := []) (n := 0) (C := RX1) (T := TX1) (N := 7) (ci := 1) hC hM (c_X1_takeBack l hl0 D cs (ul_it z (vw_pp h a) (th_ui h a 2 0) i) H.size (vw_pp h a i) kgq (hKg.pl kgq).2.2.1) (cwV 0 hC.1.2.2.2.2 (tb_V mb_180 mb_181 mb_182 mb_38 mb_183) rfl rfl rfl (by decide +kernel) ⟨Nat.le_of_ble_eq_true rfl, Nat.le_of_ble_eq_true rfl⟩) (th_at (h := ul_it z (vw_pp h a) (th_ui h a 2 0) i) kgq) rfl rfl rfl hl.1 (Nat.le_of_ble_eq_true rfl) dX0_unlock_36 ⟨Nat.le_of_ble_eq_true rfl, Nat.le_of_ble_eq_true rfl⟩ (fun E ce q9 g9 H locs hp9 hM hce hcv hcl => ?_) (fun v9 g9 H locs hp9 hM => ?_)
        · exact (hp9.elim fun _ h9 => h9.2.elim)
        obtain ⟨h36, rfl, hp9⟩ := hp9
        obtain ⟨rfl, rfl⟩ := hp9
        have kgb := pl_back_k (ul_it z (vw_pp h a) (th_ui h a 2 0) i) (vw_pp h a i)
        refine W.eq (g2 := F0 m 39 ls []) rfl ?_
        refine lv_aload_n hx hb dX0_unlock_39 rfl (lv_at hl 0 rfl) ?_
        refine gr_2_1 (index := 15) hC hM (by rw [kgb]; exact kga) mb_97 dX0_unlock_40 ((congrFun (pl_back_n _ naq).2 1).trans rga) ?_
        refine lv_iload_n hx hb dX0_unlock_43 rfl (lv_at hl 3 rfl) ?_
        refine al_6 (i := i) hC hM (by rw [kgb]; exact kgp) (rfl) (hi9) (by first | decide | omega) ((congrFun (pl_back_n _ npq).2 i).trans (rgp i hi9)) dX0_unlock_44 ?_
        refine mw_callV (As := []) (rest := []) (n := 0) (C := RX1) (T := TX1) (N := 7) (ci := 1) hC hM (c_X1_forgetFormer l hl0 D cs (pl_back (ul_it z (vw_pp h a) (th_ui h a 2 0) i) (vw_pp h a i)) H.size (vw_pp h a i) (by rw [kgb]; exact kgq)) (cwV 0 hC.1.2.2.2.2 (tb_V mb_184 mb_185 mb_186 mb_38 mb_187) rfl rfl rfl (by decide +kernel) ⟨Nat.le_of_ble_eq_true rfl, Nat.le_of_ble_eq_true rfl⟩) (th_at (h := pl_back (ul_it z (vw_pp h a) (th_ui h a 2 0) i) (vw_pp h a i)) (by rw [kgb]; exact kgq)) rfl rfl rfl hl.1 (Nat.le_of_ble_eq_true rfl) dX0_unlock_45 ⟨Nat.le_of_ble_eq_true rfl, Nat.le_of_ble_eq_true rfl⟩ (fun E ce q9 g9 H locs hp9 hM hce hcv hcl => ?_) (fun v9 g9 H locs hp9 hM => ?_)
        · exact (hp9.elim fun _ h9 => h9.2.elim)
        obtain ⟨h45, rfl, hp9⟩ := hp9
        obtain ⟨rfl, rfl⟩ := hp9
        refine W.eq (g2 := F0 m 48 ls []) rfl ?_
        refine lv_iinc (v := nI (i + 1)) (lv' := [(3, .int (nI (i + 1))), (0, .ref a), (1, .int k), (2, .int z)]) hx hb dX0_unlock_48 hl (k := 3) rfl (by exact nI_1 i) (by first | decide | omega) rfl (fun ls hl => ?_)
        refine lv_goto (tgt := 17) hx hb dX0_unlock_51 (by decide) ?_
        exact ih (i + 1) H locs ls (by omega) (by
          show th_H D cs h s (pl_end z _ _) H locs
          unfold pl_end
          first | (rw [if_pos c27]; exact hM) | (rw [if_neg c27]; exact hM)) (lv_sub hl [1, 2, 3, 0] rfl)

-- StableHeap$Lockable.unlock
set_option maxHeartbeats 4000000 in
set_option maxRecDepth 100000 in
theorem c_X0_unlock (l : Launch) (hl0 : l.stackTraces = false) (D : va_G) (cs : Nat → ClassId) (h : th_S) (sz : Nat) (x aR aO aH aT : Nat) (rt ta : Nat → Nat) (hK : sh_K x aR aO aH aT rt ta h) (a : Nat) (ha : h.1 a = some (2, 0)) (k z : Int32) : th_M l yX0_unlock wsX0_unlock { frames := 1, cells := 0, slots := 0, locals := 20 } D cs h sz [.ref a, .int k, .int z] (fun v h' => v = some (.int (ul_c k h a)) ∧ h' = ul_h z k h a) (fun E h' => False) := by
  refine mw_ofW (cc := cX0_unlock) (maxL := 4) (ret := (some .int)) (by decide) rfl (fun w h => List.mem_cons_of_mem _ h) th_cd (Nat.le_of_ble_eq_true rfl) ?_
  intro p e s m below meth c hsz hC hr hlk hnm htab hM ls hl
  have hC : th_C D cs h p m c cX0_unlock 4 s [.ref a, .int k, .int z] RX0 := hC
  have hx := hC.1.1
  have hb := hC.1.2.1
  have hl : lv_has ls 4 [(0, .ref a), (1, .int k), (2, .int z)] := hl
  refine lv_aload_n hx hb dX0_unlock_0 rfl (lv_at hl 0 rfl) ?_
  refine gi_2_2 (index := 20) hC hM ha mb_99 dX0_unlock_1 ?_
  refine lv_iload_n hx hb dX0_unlock_4 rfl (lv_at hl 1 rfl) ?_
  refine lv_icmp_eq (tgt := 10) hx hb dX0_unlock_5 (by decide) (fun c5 => ?_) (fun c5 => ?_)
  · refine lv_aload_n hx hb dX0_unlock_10 rfl (lv_at hl 0 rfl) ?_
    refine lv_iconst (v := 0) hx hb dX0_unlock_11 (by decide) ?_
    refine pu_2_2 (index := 20) (v := 0) hC hM ha mb_99 dX0_unlock_12 (fun H locs hM => ?_)
    refine lv_iconst (v := 0) hx hb dX0_unlock_15 (by decide) ?_
    refine lv_istore_n (lv' := [(3, .int 0), (0, .ref a), (1, .int k), (2, .int z)]) hx hb dX0_unlock_16 rfl hl (by decide) rfl (fun ls hl => ?_)
    exact lo_X0_unlock_17 hl0 x aR aO aH aT rt ta hK a ha k z c5 hC hr hlk htab (vw_np h a) 0 _ _ ls (by omega) hM (lv_sub hl [1, 2, 3, 0] rfl)
  · refine lv_iconst (v := 0) hx hb dX0_unlock_8 (by decide) ?_
    refine mw_iret hC hM hr hlk dX0_unlock_9 (Nat.le_of_ble_eq_true rfl) (Nat.le_of_ble_eq_true rfl) ⟨_, rfl, ?_⟩
    exact ⟨by simp [ul_c, c5], by simp [ul_h, c5]⟩
end
section
-- the loop at 38 of StableHeap.end
set_option maxHeartbeats 4000000 in
set_option maxRecDepth 100000 in
theorem lo_X3_end_38 {l : Launch} (hl0 : l.stackTraces = false) {D : va_G} {cs : Nat → ClassId} {h : th_S} (x aR aO aH aT : Nat) (rt ta : Nat → Nat) (hK : sh_K x aR aO aH aT rt ta h) (n : Nat) (hO : sh_O x aO n h) (t : Nat) (ht : h.1 t = some (1, 0)) (z : Int32) (g4 : th_S) (hg4 : en_h z (h.2.1 t 0) rt h 4 = g4) (c4 : Int32) (hc4 : en_c z (h.2.1 t 0) rt 0 h 4 = c4) {p : Program} {e : Env} {s : State} {m : MethodId} {below : List Frame} {meth : Method} {c : Code} (hC : th_C D cs h p m c cX3_end 5 s [.ref x, .ref t, .int z] RX3) (hr : meth.sig.returnType = some .int) (hlk : meth.locks = false) (htab : ∀ x ∈ c.exceptionTable.toList, False) : ∀ (q : Nat) (i : Nat) (H : Heap) (locs : List Loc) (ls : Array Slot), (i + q = n) → th_H D cs h s (en_h z (h.2.1 t 0) (vw_ob aO h) (g4) i) H locs → lv_has ls 5 [(0, .ref x), (1, .ref t), (2, .int z), (3, .int (en_c z (h.2.1 t 0) (vw_ob aO h) (c4) (g4) i)), (4, .int (nI i))] → W p l e { frames := 2, cells := 0, slots := 0, locals := 43 } s m [.ref x, .ref t, .int z].toArray below meth c H locs 0 0 (th_Q below D cs h s [.ref x, .ref t, .int z] (fun v h' => v = some (.int (sh_ec aO n rt z t h)) ∧ h' = sh_eh aO n rt z t h) (fun E h' => False) 0 0) (F0 m 38 ls []) := by
  have hx := hC.1.1
  have hb := hC.1.2.1
  intro q
  induction q with
  | zero =>
    intro i H locs ls hin hM hl
    have kr : ∀ j, j < 4 → h.1 (rt j) = some (2, 0) := fun j hj => hK.krt hj
    have hK4 : sh_K x aR aO aH aT rt ta g4 := by rw [← hg4]; exact en_h_K hK z (h.2.1 t 0) rt 4 kr
    have k4 : g4.1 = h.1 := by rw [← hg4]; exact en_h_k z (h.2.1 t 0) rt h 4
    have n4 : ∀ (b : Nat) (t9 : Nat × Nat), h.1 b = some t9 → t9 ≠ (3, 0) → g4.2.2 b = h.2.2 b ∧ (t9 ≠ (2, 0) → g4.2.1 b = h.2.1 b) := fun b t9 hb9 h9 => by rw [← hg4]; exact en_h_n hK z (h.2.1 t 0) rt hb9 h9 4 kr
    have ko : ∀ j, j < i → (g4).1 (vw_ob aO h j) = some (2, 0) := fun j hj => by rw [k4]; exact (hO.ob (by omega)).2
    have hKi : sh_K x aR aO aH aT rt ta (en_h z (h.2.1 t 0) (vw_ob aO h) (g4) i) := en_h_K hK4 z (h.2.1 t 0) (vw_ob aO h) i ko
    have ki : (en_h z (h.2.1 t 0) (vw_ob aO h) (g4) i).1 = h.1 := (en_h_k z (h.2.1 t 0) (vw_ob aO h) (g4) i).trans k4
    have kti : (en_h z (h.2.1 t 0) (vw_ob aO h) (g4) i).1 t = some (1, 0) := by rw [ki]; exact ht
    have nt : (en_h z (h.2.1 t 0) (vw_ob aO h) (g4) i).2.1 t 0 = h.2.1 t 0 := by rw [(en_h_n hK4 z (h.2.1 t 0) (vw_ob aO h) (b := t) (t := (1, 0)) (by rw [k4]; exact ht) (by decide) i ko).2 (by decide), (n4 t _ ht (by decide)).2 (by decide)]
    have nx : (en_h z (h.2.1 t 0) (vw_ob aO h) (g4) i).2.1 x 4 = nI n := by rw [(en_h_n hK4 z (h.2.1 t 0) (vw_ob aO h) (b := x) (t := (0, 0)) (by rw [k4]; exact hK.kx) (by decide) i ko).2 (by decide), (n4 x _ hK.kx (by decide)).2 (by decide)]; exact hO.2.1
    have no : ∀ j, (en_h z (h.2.1 t 0) (vw_ob aO h) (g4) i).2.2 aO j = h.2.2 aO j := fun j => by rw [(en_h_n hK4 z (h.2.1 t 0) (vw_ob aO h) (b := aO) (t := (4, 80)) (by rw [k4]; exact hK.kO) (by decide) i ko).1, (n4 aO _ hK.kO (by decide)).1]
    refine lv_iload hx hb dX3_end_38 (lv_at hl 4 rfl) ?_
    refine lv_aload_n hx hb dX3_end_40 rfl (lv_at hl 0 rfl) ?_
    refine gi_0_4 (index := 60) hC hM hKi.kx mb_128 dX3_end_41 ?_
    rw [show (en_h z (h.2.1 t 0) (vw_ob aO h) (g4) i).2.1 x 4 = nI n from nx]
    refine lv_icmp_ge (tgt := 71) hx hb dX3_end_44 (by decide) (fun c44 => ?_) (fun c44 => ?_)
    · refine lv_aload_n hx hb dX3_end_71 rfl (lv_at hl 1 rfl) ?_
      refine lv_iconst (v := 0) hx hb dX3_end_72 (by decide) ?_
      refine pu_1_0 (index := 43) (v := 0) hC hM kti mb_117 dX3_end_73 (fun H locs hM => ?_)
      refine lv_aload_n hx hb dX3_end_76 rfl (lv_at hl 1 rfl) ?_
      refine lv_iconst (v := 0) hx hb dX3_end_77 (by decide) ?_
      refine pu_1_1 (index := 134) (v := 0) hC hM kti mb_118 dX3_end_78 (fun H locs hM => ?_)
      refine lv_iload_n hx hb dX3_end_81 rfl (lv_at hl 3 rfl) ?_
      refine mw_iret hC hM hr hlk dX3_end_82 (Nat.le_of_ble_eq_true rfl) (Nat.le_of_ble_eq_true rfl) ⟨_, rfl, ?_⟩
      exact ⟨by rw [sh_ec, hg4, hc4, show n = i by omega], by rw [sh_eh, hg4, show n = i by omega]⟩
    · exact absurd (nI_le (show n ≤ i by omega) (by have := hO.1; omega)) c44
  | succ q ih =>
    intro i H locs ls hin hM hl
    have kr : ∀ j, j < 4 → h.1 (rt j) = some (2, 0) := fun j hj => hK.krt hj
    have hK4 : sh_K x aR aO aH aT rt ta g4 := by rw [← hg4]; exact en_h_K hK z (h.2.1 t 0) rt 4 kr
    have k4 : g4.1 = h.1 := by rw [← hg4]; exact en_h_k z (h.2.1 t 0) rt h 4
    have n4 : ∀ (b : Nat) (t9 : Nat × Nat), h.1 b = some t9 → t9 ≠ (3, 0) → g4.2.2 b = h.2.2 b ∧ (t9 ≠ (2, 0) → g4.2.1 b = h.2.1 b) := fun b t9 hb9 h9 => by rw [← hg4]; exact en_h_n hK z (h.2.1 t 0) rt hb9 h9 4 kr
    have ko : ∀ j, j < i → (g4).1 (vw_ob aO h j) = some (2, 0) := fun j hj => by rw [k4]; exact (hO.ob (by omega)).2
    have hKi : sh_K x aR aO aH aT rt ta (en_h z (h.2.1 t 0) (vw_ob aO h) (g4) i) := en_h_K hK4 z (h.2.1 t 0) (vw_ob aO h) i ko
    have ki : (en_h z (h.2.1 t 0) (vw_ob aO h) (g4) i).1 = h.1 := (en_h_k z (h.2.1 t 0) (vw_ob aO h) (g4) i).trans k4
    have kti : (en_h z (h.2.1 t 0) (vw_ob aO h) (g4) i).1 t = some (1, 0) := by rw [ki]; exact ht
    have nt : (en_h z (h.2.1 t 0) (vw_ob aO h) (g4) i).2.1 t 0 = h.2.1 t 0 := by rw [(en_h_n hK4 z (h.2.1 t 0) (vw_ob aO h) (b := t) (t := (1, 0)) (by rw [k4]; exact ht) (by decide) i ko).2 (by decide), (n4 t _ ht (by decide)).2 (by decide)]
    have nx : (en_h z (h.2.1 t 0) (vw_ob aO h) (g4) i).2.1 x 4 = nI n := by rw [(en_h_n hK4 z (h.2.1 t 0) (vw_ob aO h) (b := x) (t := (0, 0)) (by rw [k4]; exact hK.kx) (by decide) i ko).2 (by decide), (n4 x _ hK.kx (by decide)).2 (by decide)]; exact hO.2.1
    have no : ∀ j, (en_h z (h.2.1 t 0) (vw_ob aO h) (g4) i).2.2 aO j = h.2.2 aO j := fun j => by rw [(en_h_n hK4 z (h.2.1 t 0) (vw_ob aO h) (b := aO) (t := (4, 80)) (by rw [k4]; exact hK.kO) (by decide) i ko).1, (n4 aO _ hK.kO (by decide)).1]
    have kb : (en_h z (h.2.1 t 0) (vw_ob aO h) (g4) i).1 (vw_ob aO h i) = some (2, 0) := by rw [ki]; exact (hO.ob (by omega)).2
    refine lv_iload hx hb dX3_end_38 (lv_at hl 4 rfl) ?_
    refine lv_aload_n hx hb dX3_end_40 rfl (lv_at hl 0 rfl) ?_
    refine gi_0_4 (index := 60) hC hM hKi.kx mb_128 dX3_end_41 ?_
    rw [show (en_h z (h.2.1 t 0) (vw_ob aO h) (g4) i).2.1 x 4 = nI n from nx]
    refine lv_icmp_ge (tgt := 71) hx hb dX3_end_44 (by decide) (fun c44 => ?_) (fun c44 => ?_)
    · exact absurd c44 (nI_ge (by omega) (by have := hO.1; omega))
    · refine lv_iload_n hx hb dX3_end_47 rfl (lv_at hl 3 rfl) ?_
      refine lv_aload_n hx hb dX3_end_48 rfl (lv_at hl 0 rfl) ?_
      refine gr_0_1 (index := 18) hC hM hKi.kx mb_125 dX3_end_49 hKi.xO ?_
      refine lv_iload hx hb dX3_end_52 (lv_at hl 4 rfl) ?_
      refine al_4 (i := i) hC hM hKi.kO (rfl) (by have := hO.1; omega) (by first | decide | omega) ((no i).trans (hO.ob (by omega)).1) dX3_end_54 ?_
      refine lv_aload_n hx hb dX3_end_55 rfl (lv_at hl 1 rfl) ?_
      refine gi_1_0 (index := 43) hC hM kti mb_117 dX3_end_56 ?_
      rw [show (en_h z (h.2.1 t 0) (vw_ob aO h) (g4) i).2.1 t 0 = h.2.1 t 0 from nt]
      refine lv_iload_n hx hb dX3_end_59 rfl (lv_at hl 2 rfl) ?_
      refine mw_callV (As := [.int (h.2.1 t 0), .int z]) (rest := [.int (en_c z (h.2.1 t 0) (vw_ob aO h) (c4) (g4) i)]) (n := 2) (C := RX0) (T := TX0) (N := 4) (ci := 0) hC hM (c_X0_unlock l hl0 D cs (en_h z (h.2.1 t 0) (vw_ob aO h) (g4) i) H.size x aR aO aH aT rt ta hKi (vw_ob aO h i) kb (h.2.1 t 0) z) (cwV 2 hC.1.2.2.2.2 (tb_V mb_176 mb_177 mb_178 mb_37 mb_179) rfl rfl rfl (by decide +kernel) ⟨Nat.le_of_ble_eq_true rfl, Nat.le_of_ble_eq_true rfl⟩) (th_at (h := en_h z (h.2.1 t 0) (vw_ob aO h) (g4) i) kb) rfl rfl rfl hl.1 (Nat.le_of_ble_eq_true rfl) dX3_end_60 ⟨Nat.le_of_ble_eq_true rfl, Nat.le_of_ble_eq_true rfl⟩ (fun E ce q9 g9 H locs hp9 hM hce hcv hcl => ?_) (fun v9 g9 H locs hp9 hM => ?_)
      · exact (hp9.elim fun _ h9 => h9.2.elim)
      obtain ⟨h60, rfl, hp9⟩ := hp9
      obtain ⟨rfl, rfl⟩ := hp9
      refine W.eq (g2 := F0 m 63 ls [.int (ul_c (h.2.1 t 0) (en_h z (h.2.1 t 0) (vw_ob aO h) (g4) i) (vw_ob aO h i)), .int (en_c z (h.2.1 t 0) (vw_ob aO h) (c4) (g4) i)]) rfl ?_
      refine lv_iadd hx hb dX3_end_63 ?_
      refine lv_istore_n (lv' := [(3, .int ((en_c z (h.2.1 t 0) (vw_ob aO h) (c4) (g4) i) + (ul_c (h.2.1 t 0) (en_h z (h.2.1 t 0) (vw_ob aO h) (g4) i) (vw_ob aO h i)))), (0, .ref x), (1, .ref t), (2, .int z), (4, .int (nI i))]) hx hb dX3_end_64 rfl hl (by decide) rfl (fun ls hl => ?_)
      refine lv_iinc (v := nI (i + 1)) (lv' := [(4, .int (nI (i + 1))), (3, .int ((en_c z (h.2.1 t 0) (vw_ob aO h) (c4) (g4) i) + (ul_c (h.2.1 t 0) (en_h z (h.2.1 t 0) (vw_ob aO h) (g4) i) (vw_ob aO h i)))), (0, .ref x), (1, .ref t), (2, .int z)]) hx hb dX3_end_65 hl (k := 4) rfl (by exact nI_1 i) (by first | decide | omega) rfl (fun ls hl => ?_)
      refine lv_goto (tgt := 38) hx hb dX3_end_68 (by decide) ?_
      exact ih (i + 1) H locs ls (by omega) hM (lv_sub hl [2, 3, 4, 1, 0] rfl)

-- the loop at 5 of StableHeap.end
set_option maxHeartbeats 4000000 in
set_option maxRecDepth 100000 in
theorem lo_X3_end_5 {l : Launch} (hl0 : l.stackTraces = false) {D : va_G} {cs : Nat → ClassId} {h : th_S} (x aR aO aH aT : Nat) (rt ta : Nat → Nat) (hK : sh_K x aR aO aH aT rt ta h) (n : Nat) (hO : sh_O x aO n h) (t : Nat) (ht : h.1 t = some (1, 0)) (z : Int32) {p : Program} {e : Env} {s : State} {m : MethodId} {below : List Frame} {meth : Method} {c : Code} (hC : th_C D cs h p m c cX3_end 5 s [.ref x, .ref t, .int z] RX3) (hr : meth.sig.returnType = some .int) (hlk : meth.locks = false) (htab : ∀ x ∈ c.exceptionTable.toList, False) : ∀ (q : Nat) (i : Nat) (H : Heap) (locs : List Loc) (ls : Array Slot), (i + q = 4) → th_H D cs h s (en_h z (h.2.1 t 0) rt h i) H locs → lv_has ls 5 [(0, .ref x), (1, .ref t), (2, .int z), (3, .int (en_c z (h.2.1 t 0) rt 0 h i)), (4, .int (nI i))] → W p l e { frames := 2, cells := 0, slots := 0, locals := 43 } s m [.ref x, .ref t, .int z].toArray below meth c H locs 0 0 (th_Q below D cs h s [.ref x, .ref t, .int z] (fun v h' => v = some (.int (sh_ec aO n rt z t h)) ∧ h' = sh_eh aO n rt z t h) (fun E h' => False) 0 0) (F0 m 5 ls []) := by
  have hx := hC.1.1
  have hb := hC.1.2.1
  intro q
  induction q with
  | zero =>
    intro i H locs ls hin hM hl
    have hi4 : i = 4 := by omega
    refine lv_iload hx hb dX3_end_5 (lv_at hl 4 rfl) ?_
    refine lv_iconst (v := 4) hx hb dX3_end_7 (by decide) ?_
    refine lv_icmp_ge (tgt := 35) hx hb dX3_end_8 (by decide) (fun c8 => ?_) (fun c8 => ?_)
    · refine lv_iconst (v := 0) hx hb dX3_end_35 (by decide) ?_
      refine lv_istore (lv' := [(4, .int 0), (0, .ref x), (1, .ref t), (2, .int z), (3, .int (en_c z (h.2.1 t 0) rt 0 h i))]) hx hb dX3_end_36 hl (by decide) rfl (fun ls hl => ?_)
      exact lo_X3_end_38 hl0 x aR aO aH aT rt ta hK n hO t ht z (en_h z (h.2.1 t 0) rt h i) (by rw [hi4]) (en_c z (h.2.1 t 0) rt 0 h i) (by rw [hi4]) hC hr hlk htab n 0 _ _ ls (by omega) hM (lv_sub hl [1, 2, 3, 4, 0] rfl)
    · exact absurd (nI_le (a := 4) (show 4 ≤ i by omega) (by omega)) c8
  | succ q ih =>
    intro i H locs ls hin hM hl
    have kr : ∀ j, j < i → h.1 (rt j) = some (2, 0) := fun j hj => hK.krt (by omega)
    have hKi : sh_K x aR aO aH aT rt ta (en_h z (h.2.1 t 0) rt h i) := en_h_K hK z (h.2.1 t 0) rt i kr
    have ki : (en_h z (h.2.1 t 0) rt h i).1 = h.1 := en_h_k z (h.2.1 t 0) rt h i
    have kti : (en_h z (h.2.1 t 0) rt h i).1 t = some (1, 0) := by rw [ki]; exact ht
    have nt : (en_h z (h.2.1 t 0) rt h i).2.1 t 0 = h.2.1 t 0 := by rw [(en_h_n hK z (h.2.1 t 0) rt ht (by decide) i kr).2 (by decide)]
    refine lv_iload hx hb dX3_end_5 (lv_at hl 4 rfl) ?_
    refine lv_iconst (v := 4) hx hb dX3_end_7 (by decide) ?_
    refine lv_icmp_ge (tgt := 35) hx hb dX3_end_8 (by decide) (fun c8 => ?_) (fun c8 => ?_)
    · exact absurd c8 (nI_ge (b := 4) (by omega) (by decide))
    · refine lv_iload_n hx hb dX3_end_11 rfl (lv_at hl 3 rfl) ?_
      refine lv_aload_n hx hb dX3_end_12 rfl (lv_at hl 0 rfl) ?_
      refine gr_0_0 (index := 11) hC hM hKi.kx mb_124 dX3_end_13 hKi.xR ?_
      refine lv_iload hx hb dX3_end_16 (lv_at hl 4 rfl) ?_
      refine al_4 (i := i) hC hM hKi.kR (rfl) (by omega) (by first | decide | omega) (hKi.rr (by omega)) dX3_end_18 ?_
      refine lv_aload_n hx hb dX3_end_19 rfl (lv_at hl 1 rfl) ?_
      refine gi_1_0 (index := 43) hC hM kti mb_117 dX3_end_20 ?_
      rw [show (en_h z (h.2.1 t 0) rt h i).2.1 t 0 = h.2.1 t 0 from nt]
      refine lv_iload_n hx hb dX3_end_23 rfl (lv_at hl 2 rfl) ?_
      refine mw_callV (As := [.int (h.2.1 t 0), .int z]) (rest := [.int (en_c z (h.2.1 t 0) rt 0 h i)]) (n := 2) (C := RX0) (T := TX0) (N := 4) (ci := 0) hC hM (c_X0_unlock l hl0 D cs (en_h z (h.2.1 t 0) rt h i) H.size x aR aO aH aT rt ta hKi (rt i) (hKi.krt (by omega)) (h.2.1 t 0) z) (cwV 2 hC.1.2.2.2.2 (tb_V mb_176 mb_177 mb_178 mb_37 mb_179) rfl rfl rfl (by decide +kernel) ⟨Nat.le_of_ble_eq_true rfl, Nat.le_of_ble_eq_true rfl⟩) (th_at (h := en_h z (h.2.1 t 0) rt h i) (hKi.krt (by omega))) rfl rfl rfl hl.1 (Nat.le_of_ble_eq_true rfl) dX3_end_24 ⟨Nat.le_of_ble_eq_true rfl, Nat.le_of_ble_eq_true rfl⟩ (fun E ce q9 g9 H locs hp9 hM hce hcv hcl => ?_) (fun v9 g9 H locs hp9 hM => ?_)
      · exact (hp9.elim fun _ h9 => h9.2.elim)
      obtain ⟨h24, rfl, hp9⟩ := hp9
      obtain ⟨rfl, rfl⟩ := hp9
      refine W.eq (g2 := F0 m 27 ls [.int (ul_c (h.2.1 t 0) (en_h z (h.2.1 t 0) rt h i) (rt i)), .int (en_c z (h.2.1 t 0) rt 0 h i)]) rfl ?_
      refine lv_iadd hx hb dX3_end_27 ?_
      refine lv_istore_n (lv' := [(3, .int ((en_c z (h.2.1 t 0) rt 0 h i) + (ul_c (h.2.1 t 0) (en_h z (h.2.1 t 0) rt h i) (rt i)))), (0, .ref x), (1, .ref t), (2, .int z), (4, .int (nI i))]) hx hb dX3_end_28 rfl hl (by decide) rfl (fun ls hl => ?_)
      refine lv_iinc (v := nI (i + 1)) (lv' := [(4, .int (nI (i + 1))), (3, .int ((en_c z (h.2.1 t 0) rt 0 h i) + (ul_c (h.2.1 t 0) (en_h z (h.2.1 t 0) rt h i) (rt i)))), (0, .ref x), (1, .ref t), (2, .int z)]) hx hb dX3_end_29 hl (k := 4) rfl (by exact nI_1 i) (by first | decide | omega) rfl (fun ls hl => ?_)
      refine lv_goto (tgt := 5) hx hb dX3_end_32 (by decide) ?_
      exact ih (i + 1) H locs ls (by omega) hM (lv_sub hl [2, 3, 4, 1, 0] rfl)

-- StableHeap.end
set_option maxHeartbeats 4000000 in
set_option maxRecDepth 100000 in
theorem c_X3_end (l : Launch) (hl0 : l.stackTraces = false) (D : va_G) (cs : Nat → ClassId) (h : th_S) (sz : Nat) (x aR aO aH aT : Nat) (rt ta : Nat → Nat) (hK : sh_K x aR aO aH aT rt ta h) (n : Nat) (hO : sh_O x aO n h) (t : Nat) (ht : h.1 t = some (1, 0)) (z : Int32) : th_M l yX3_end wsX3_end { frames := 2, cells := 0, slots := 0, locals := 43 } D cs h sz [.ref x, .ref t, .int z] (fun v h' => v = some (.int (sh_ec aO n rt z t h)) ∧ h' = sh_eh aO n rt z t h) (fun E h' => False) := by
  refine mw_ofW (cc := cX3_end) (maxL := 5) (ret := (some .int)) (by decide) rfl (fun w h => List.mem_cons_of_mem _ h) th_cd (Nat.le_of_ble_eq_true rfl) ?_
  intro p e s m below meth c hsz hC hr hlk hnm htab hM ls hl
  have hC : th_C D cs h p m c cX3_end 5 s [.ref x, .ref t, .int z] RX3 := hC
  have hx := hC.1.1
  have hb := hC.1.2.1
  have kx0 : h.1 x = some (0, 0) := hK.kx
  have hl : lv_has ls 5 [(0, .ref x), (1, .ref t), (2, .int z)] := hl
  refine lv_iconst (v := 0) hx hb dX3_end_0 (by decide) ?_
  refine lv_istore_n (lv' := [(3, .int 0), (0, .ref x), (1, .ref t), (2, .int z)]) hx hb dX3_end_1 rfl hl (by decide) rfl (fun ls hl => ?_)
  refine lv_iconst (v := 0) hx hb dX3_end_2 (by decide) ?_
  refine lv_istore (lv' := [(4, .int 0), (3, .int 0), (0, .ref x), (1, .ref t), (2, .int z)]) hx hb dX3_end_3 hl (by decide) rfl (fun ls hl => ?_)
  exact lo_X3_end_5 hl0 x aR aO aH aT rt ta hK n hO t ht z hC hr hlk htab 4 0 _ _ ls (by omega) hM (lv_sub hl [2, 3, 4, 1, 0] rfl)

-- StableHeap.abort
set_option maxHeartbeats 4000000 in
set_option maxRecDepth 100000 in
theorem c_X3_abort (l : Launch) (hl0 : l.stackTraces = false) (D : va_G) (cs : Nat → ClassId) (h : th_S) (sz : Nat) (x aR aO aH aT : Nat) (rt ta : Nat → Nat) (hK : sh_K x aR aO aH aT rt ta h) (n : Nat) (hO : sh_O x aO n h) (k : Int32) : th_M l yX3_abort wsX3_abort { frames := 7, cells := 1, slots := 6, locals := 112 } D cs h sz [.ref x, .int k] (fun v h' => ∃ i, sh_tx ta h k i ∧ v = some (.int (sh_ec aO n rt 0 (ta i) h)) ∧ h' = sh_eh aO n rt 0 (ta i) h) (fun E h' => E = "java/util/NoSuchElementException" ∧ h = h' ∧ sh_nt ta h k) := by
  refine mw_ofW (cc := cX3_abort) (maxL := 2) (ret := (some .int)) (by decide) rfl (fun w h => List.mem_cons_of_mem _ h) th_cd (Nat.le_of_ble_eq_true rfl) ?_
  intro p e s m below meth c hsz hC hr hlk hnm htab hM ls hl
  have hC : th_C D cs h p m c cX3_abort 2 s [.ref x, .int k] RX3 := hC
  have hx := hC.1.1
  have hb := hC.1.2.1
  have kx0 : h.1 x = some (0, 0) := hK.kx
  have hl : lv_has ls 2 [(0, .ref x), (1, .int k)] := hl
  refine lv_aload_n hx hb dX3_abort_0 rfl (lv_at hl 0 rfl) ?_
  refine lv_aload_n hx hb dX3_abort_1 rfl (lv_at hl 0 rfl) ?_
  refine lv_iload_n hx hb dX3_abort_2 rfl (lv_at hl 1 rfl) ?_
  refine mw_callV (As := [.int k]) (rest := [.ref x]) (n := 1) (C := RX3) (T := TX3) (N := 11) (ci := 3) hC hM (c_X3_activeTransaction l hl0 D cs h s.heap.size x aR aO aH aT rt ta hK k) (cwV 1 hC.1.2.2.2.2 (tb_V mb_308 mb_309 mb_9 mb_36 mb_310) rfl rfl rfl (by decide +kernel) ⟨Nat.le_of_ble_eq_true rfl, Nat.le_of_ble_eq_true rfl⟩) (th_at (h := h) kx0) rfl rfl rfl hl.1 (Nat.le_of_ble_eq_true rfl) dX3_abort_3 ⟨Nat.le_of_ble_eq_true rfl, Nat.le_of_ble_eq_true rfl⟩ (fun E ce q9 g9 H locs hp9 hM hce hcv hcl => ?_) (fun v9 g9 H locs hp9 hM => ?_)
  · obtain ⟨h9, rfl, rfl, rfl, hf⟩ := hp9
    exact mw_out hM htab hlk hce hcv hcl (Nat.le_of_ble_eq_true rfl) (Nat.le_of_ble_eq_true rfl) ⟨_, rfl, rfl, rfl, hf⟩
  obtain ⟨h3, rfl, hp9⟩ := hp9
  obtain ⟨rfl, i, hi, rfl⟩ := hp9
  have kti : h.1 (ta i) = some (1, 0) := hK.kta hi.1
  refine W.eq (g2 := F0 m 6 ls [.ref (ta i), .ref x]) rfl ?_
  refine lv_iconst (v := 0) hx hb dX3_abort_6 (by decide) ?_
  refine mw_callV (As := [.ref (ta i), .int 0]) (rest := []) (n := 2) (C := RX3) (T := TX3) (N := 11) (ci := 3) hC hM (c_X3_end l hl0 D cs h H.size x aR aO aH aT rt ta hK n hO (ta i) (hK.kta hi.1) 0) (cwV 2 hC.1.2.2.2.2 (tb_V mb_173 mb_174 mb_1 mb_36 mb_175) rfl rfl rfl (by decide +kernel) ⟨Nat.le_of_ble_eq_true rfl, Nat.le_of_ble_eq_true rfl⟩) (th_at (h := h) kx0) rfl rfl rfl hl.1 (Nat.le_of_ble_eq_true rfl) dX3_abort_7 ⟨Nat.le_of_ble_eq_true rfl, Nat.le_of_ble_eq_true rfl⟩ (fun E ce q9 g9 H locs hp9 hM hce hcv hcl => ?_) (fun v9 g9 H locs hp9 hM => ?_)
  · exact (hp9.elim fun _ h9 => h9.2.elim)
  obtain ⟨h7, rfl, hp9⟩ := hp9
  obtain ⟨rfl, rfl⟩ := hp9
  refine W.eq (g2 := F0 m 10 ls [.int (sh_ec aO n rt 0 (ta i) h)]) rfl ?_
  refine mw_iret hC hM hr hlk dX3_abort_10 (Nat.le_of_ble_eq_true rfl) (Nat.le_of_ble_eq_true rfl) ⟨_, rfl, ?_⟩
  exact ⟨i, hi, rfl, rfl⟩

theorem sh_O.ui {x aO n : Nat} {h : th_S} (o : sh_O x aO n h) {a j : Nat} {v : Int32} (hj : j ≠ 4) : sh_O x aO n (th_ui h a j v) := by
  refine ⟨o.1, ?_, o.2.2⟩
  by_cases e : x = a
  · subst e
    rw [th_ui_k _ _ _ (Ne.symm hj)]
    exact o.2.1
  · rw [th_ui_n _ _ _ _ e]
    exact o.2.1

-- StableHeap.commit
set_option maxHeartbeats 4000000 in
set_option maxRecDepth 100000 in
theorem c_X3_commit (l : Launch) (hl0 : l.stackTraces = false) (D : va_G) (cs : Nat → ClassId) (h : th_S) (sz : Nat) (x aR aO aH aT : Nat) (rt ta : Nat → Nat) (hK : sh_K x aR aO aH aT rt ta h) (n : Nat) (hO : sh_O x aO n h) (k : Int32) : th_M l yX3_commit wsX3_commit { frames := 7, cells := 2, slots := 12, locals := 112 } D cs h sz [.ref x, .int k] (fun v h' => ∃ i, sh_tx ta h k i ∧ sh_wl x ta h + 1 ≤ 150 ∧ v = some (.int (sh_ec aO n rt 1 (ta i) (th_ui (th_ui h (ta i) 1 (h.2.1 (ta i) 1 + 1)) x 8 (h.2.1 x 8 + (h.2.1 (ta i) 1 + 1))))) ∧ h' = sh_eh aO n rt 1 (ta i) (th_ui (th_ui h (ta i) 1 (h.2.1 (ta i) 1 + 1)) x 8 (h.2.1 x 8 + (h.2.1 (ta i) 1 + 1)))) (fun E h' => h = h' ∧ ((E = "java/util/NoSuchElementException" ∧ sh_nt ta h k) ∨ (E = "java/lang/UnsupportedOperationException" ∧ (∃ i, sh_tx ta h k i) ∧ ¬ sh_wl x ta h + 1 ≤ 150))) := by
  refine mw_ofW (cc := cX3_commit) (maxL := 3) (ret := (some .int)) (by decide) rfl (fun w h => List.mem_cons_of_mem _ h) th_cd (Nat.le_of_ble_eq_true rfl) ?_
  intro p e s m below meth c hsz hC hr hlk hnm htab hM ls hl
  have hC : th_C D cs h p m c cX3_commit 3 s [.ref x, .int k] RX3 := hC
  have hx := hC.1.1
  have hb := hC.1.2.1
  have kx0 : h.1 x = some (0, 0) := hK.kx
  have hl : lv_has ls 3 [(0, .ref x), (1, .int k)] := hl
  refine lv_aload_n hx hb dX3_commit_0 rfl (lv_at hl 0 rfl) ?_
  refine lv_iload_n hx hb dX3_commit_1 rfl (lv_at hl 1 rfl) ?_
  refine mw_callV (As := [.int k]) (rest := []) (n := 1) (C := RX3) (T := TX3) (N := 11) (ci := 3) hC hM (c_X3_activeTransaction l hl0 D cs h s.heap.size x aR aO aH aT rt ta hK k) (cwV 1 hC.1.2.2.2.2 (tb_V mb_308 mb_309 mb_9 mb_36 mb_310) rfl rfl rfl (by decide +kernel) ⟨Nat.le_of_ble_eq_true rfl, Nat.le_of_ble_eq_true rfl⟩) (th_at (h := h) kx0) rfl rfl rfl hl.1 (Nat.le_of_ble_eq_true rfl) dX3_commit_2 ⟨Nat.le_of_ble_eq_true rfl, Nat.le_of_ble_eq_true rfl⟩ (fun E ce q9 g9 H locs hp9 hM hce hcv hcl => ?_) (fun v9 g9 H locs hp9 hM => ?_)
  · obtain ⟨h9, rfl, rfl, rfl, hf⟩ := hp9
    exact mw_out hM htab hlk hce hcv hcl (Nat.le_of_ble_eq_true rfl) (Nat.le_of_ble_eq_true rfl) ⟨_, rfl, rfl, Or.inl ⟨rfl, hf⟩⟩
  obtain ⟨h2, rfl, hp9⟩ := hp9
  obtain ⟨rfl, i, hi, rfl⟩ := hp9
  have kti : h.1 (ta i) = some (1, 0) := hK.kta hi.1
  refine W.eq (g2 := F0 m 5 ls [.ref (ta i)]) rfl ?_
  refine lv_astore_n (lv' := [(2, .ref (ta i)), (0, .ref x), (1, .int k)]) hx hb dX3_commit_5 rfl hl (by decide) rfl (fun ls hl => ?_)
  refine lv_aload_n hx hb dX3_commit_6 rfl (lv_at hl 1 rfl) ?_
  refine lv_aload_n hx hb dX3_commit_7 rfl (lv_at hl 0 rfl) ?_
  refine lv_iconst (v := 1) hx hb dX3_commit_8 (by decide) ?_
  refine mw_callV (As := [.ref (ta i), .int 1]) (rest := []) (n := 2) (C := RX3) (T := TX3) (N := 11) (ci := 3) hC hM (c_X3_writeRecord l hl0 D cs h H.size x aR aO aH aT rt ta hK (ta i) (hK.kta hi.1) 1) (cwV 2 hC.1.2.2.2.2 (tb_V mb_282 mb_283 mb_8 mb_36 mb_284) rfl rfl rfl (by decide +kernel) ⟨Nat.le_of_ble_eq_true rfl, Nat.le_of_ble_eq_true rfl⟩) (th_at (h := h) kx0) rfl rfl rfl hl.1 (Nat.le_of_ble_eq_true rfl) dX3_commit_9 ⟨Nat.le_of_ble_eq_true rfl, Nat.le_of_ble_eq_true rfl⟩ (fun E ce q9 g9 H locs hp9 hM hce hcv hcl => ?_) (fun v9 g9 H locs hp9 hM => ?_)
  · obtain ⟨h9, rfl, rfl, rfl, hw⟩ := hp9
    exact mw_out hM htab hlk hce hcv hcl (Nat.le_of_ble_eq_true rfl) (Nat.le_of_ble_eq_true rfl) ⟨_, rfl, rfl, Or.inr ⟨rfl, ⟨i, hi⟩, hw⟩⟩
  obtain ⟨h9, rfl, hp9⟩ := hp9
  obtain ⟨rfl, rfl, hw⟩ := hp9
  refine W.eq (g2 := F0 m 12 ls []) rfl ?_
  refine lv_aload_n hx hb dX3_commit_12 rfl (lv_at hl 1 rfl) ?_
  refine lv_dup hx hb dX3_commit_13 rfl ?_
  refine gi_0_8 (index := 131) hC hM kx0 mb_132 dX3_commit_14 ?_
  rw [show (th_ui h (ta i) 1 (h.2.1 (ta i) 1 + 1)).2.1 x 8 = h.2.1 x 8 from th_ui_n _ _ _ _ (th_kne hK.kx (hK.kta hi.1) (by decide))]
  refine lv_aload_n hx hb dX3_commit_17 rfl (lv_at hl 0 rfl) ?_
  refine gi_1_1 (index := 134) hC hM kti mb_118 dX3_commit_18 ?_
  rw [show (th_ui h (ta i) 1 (h.2.1 (ta i) 1 + 1)).2.1 (ta i) 1 = h.2.1 (ta i) 1 + 1 from th_ui_s _ _ _ _]
  refine lv_iadd hx hb dX3_commit_21 ?_
  refine pu_0_8 (index := 131) (v := (h.2.1 x 8) + (h.2.1 (ta i) 1 + 1)) hC hM kx0 mb_132 dX3_commit_22 (fun H locs hM => ?_)
  refine lv_aload_n hx hb dX3_commit_25 rfl (lv_at hl 1 rfl) ?_
  refine lv_aload_n hx hb dX3_commit_26 rfl (lv_at hl 0 rfl) ?_
  refine lv_iconst (v := 1) hx hb dX3_commit_27 (by decide) ?_
  refine mw_callV (As := [.ref (ta i), .int 1]) (rest := []) (n := 2) (C := RX3) (T := TX3) (N := 11) (ci := 3) hC hM (c_X3_end l hl0 D cs (th_ui (th_ui h (ta i) 1 (h.2.1 (ta i) 1 + 1)) x 8 ((h.2.1 x 8) + (h.2.1 (ta i) 1 + 1))) H.size x aR aO aH aT rt ta ((hK.uk (hK.kta hi.1) (by decide)).uk hK.kx (by decide)) n ((hO.ui (by decide)).ui (by decide)) (ta i) (hK.kta hi.1) 1) (cwV 2 hC.1.2.2.2.2 (tb_V mb_173 mb_174 mb_1 mb_36 mb_175) rfl rfl rfl (by decide +kernel) ⟨Nat.le_of_ble_eq_true rfl, Nat.le_of_ble_eq_true rfl⟩) (th_at (h := th_ui (th_ui h (ta i) 1 (h.2.1 (ta i) 1 + 1)) x 8 ((h.2.1 x 8) + (h.2.1 (ta i) 1 + 1))) kx0) rfl rfl rfl hl.1 (Nat.le_of_ble_eq_true rfl) dX3_commit_28 ⟨Nat.le_of_ble_eq_true rfl, Nat.le_of_ble_eq_true rfl⟩ (fun E ce q9 g9 H locs hp9 hM hce hcv hcl => ?_) (fun v9 g9 H locs hp9 hM => ?_)
  · exact (hp9.elim fun _ h9 => h9.2.elim)
  obtain ⟨h28, rfl, hp9⟩ := hp9
  obtain ⟨rfl, rfl⟩ := hp9
  refine W.eq (g2 := F0 m 31 ls [.int (sh_ec aO n rt 1 (ta i) (th_ui (th_ui h (ta i) 1 (h.2.1 (ta i) 1 + 1)) x 8 (h.2.1 x 8 + (h.2.1 (ta i) 1 + 1))))]) rfl ?_
  refine mw_iret hC hM hr hlk dX3_commit_31 (Nat.le_of_ble_eq_true rfl) (Nat.le_of_ble_eq_true rfl) ⟨_, rfl, ?_⟩
  exact ⟨i, hi, hw, rfl, rfl⟩
end
section
/-! holding: the row of held objects and its length k -/
def ho_h (x aH : Nat) (s : Nat × th_S) (r : Option Nat) : th_S := match r with
  | none => s.2
  | some a => if s.2.2.1 a 3 = 0 ∧ s.1 < 80 then th_ui (th_ur (th_ui s.2 a 3 1) aH s.1 (some a)) x 5 (nI (s.1 + 1)) else s.2
def ho_k (s : Nat × th_S) (r : Option Nat) : Nat := match r with
  | none => s.1
  | some a => if s.2.2.1 a 3 = 0 ∧ s.1 < 80 then s.1 + 1 else s.1
def ho_s (x aH : Nat) (s : Nat × th_S) (r : Option Nat) : Nat × th_S := (ho_k s r, ho_h x aH s r)
/-- the count is in the object, and within the row -/
def ho_C (x : Nat) (s : Nat × th_S) : Prop := s.2.2.1 x 5 = nI s.1 ∧ s.1 ≤ 80
theorem ho_h_k (x aH : Nat) (s : Nat × th_S) (r : Option Nat) : (ho_h x aH s r).1 = s.2.1 := by
  unfold ho_h
  split
  · rfl
  · split <;> rfl
theorem ho_h_r (x aH : Nat) (s : Nat × th_S) (r : Option Nat) {b : Nat} (hb : b ≠ aH) : (ho_h x aH s r).2.2 b = s.2.2.2 b := by
  unfold ho_h
  split
  · rfl
  · split
    · simp [th_ui, th_ur, va_up, hb]
    · rfl
/-- an int changes only at the count and at a mark -/
theorem ho_h_i (x aH : Nat) (s : Nat × th_S) (r : Option Nat) {b j : Nat} (h5 : b = x → j ≠ 5) (h3 : j ≠ 3 ∨ r ≠ some b) : (ho_h x aH s r).2.1 b j = s.2.2.1 b j := by
  unfold ho_h
  split
  · rfl
  · rename_i a
    split
    · show (th_ui (th_ur (th_ui s.2 a 3 1) aH s.1 (some a)) x 5 (nI (s.1 + 1))).2.1 b j = s.2.2.1 b j
      have e1 : (th_ui (th_ur (th_ui s.2 a 3 1) aH s.1 (some a)) x 5 (nI (s.1 + 1))).2.1 b j = (th_ui s.2 a 3 1).2.1 b j := by
        by_cases hx : b = x
        · rw [hx]; exact th_ui_k _ _ _ (h5 hx)
        · exact th_ui_n _ _ _ _ hx
      rw [e1]
      by_cases ha : b = a
      · rw [ha]
        exact th_ui_k _ _ _ (h3.elim id (fun q => absurd (by rw [ha]) q))
      · exact th_ui_n _ _ _ _ ha
    · rfl
section HOK
variable {x aR aO aH aT : Nat} {rt ta : Nat → Nat} {s : Nat × th_S}
theorem ho_s_K (K : sh_K x aR aO aH aT rt ta s.2) {r : Option Nat} (hr : ∀ b, r = some b → s.2.1 b = some (2, 0)) : sh_K x aR aO aH aT rt ta (ho_s x aH s r).2 := by
  show sh_K x aR aO aH aT rt ta (ho_h x aH s r)
  unfold ho_h
  split
  · exact K
  · rename_i a
    split
    · exact ((K.uk (hr a rfl) (by decide)).urA (Or.inr rfl)).uk K.kx (by decide)
    · exact K
theorem ho_s_C (K : sh_K x aR aO aH aT rt ta s.2) (hC : ho_C x s) {r : Option Nat} (hr : ∀ b, r = some b → s.2.1 b = some (2, 0)) : ho_C x (ho_s x aH s r) := by
  unfold ho_C ho_s ho_h ho_k
  split
  · exact hC
  · rename_i a
    by_cases hc : s.2.2.1 a 3 = 0 ∧ s.1 < 80
    · simp only [if_pos hc]
      exact ⟨th_ui_s _ _ _ _, hc.2⟩
    · simp only [if_neg hc]
      exact hC
theorem ho_s_O {n : Nat} (K : sh_K x aR aO aH aT rt ta s.2) (o : sh_O x aO n s.2) (r : Option Nat) : sh_O x aO n (ho_s x aH s r).2 := by
  have e1 : (ho_s x aH s r).2.1 = s.2.1 := ho_h_k x aH s r
  have e2 : (ho_s x aH s r).2.2.2 aO = s.2.2.2 aO := ho_h_r x aH s r K.2.2.1.2.2
  refine ⟨o.1, ?_, fun i hi => ?_⟩
  · rw [show (ho_s x aH s r).2.2.1 x 4 = s.2.2.1 x 4 from ho_h_i x aH s r (fun _ => by decide) (Or.inl (by decide))]
    exact o.2.1
  · rw [e1, e2]
    exact o.2.2 i hi
end HOK
/-- all that the places pp 0, pp 1 .. refer to, and referred to before -/
def ht_s (x aH : Nat) (pp : Nat → Nat) (s : Nat × th_S) : Nat → Nat × th_S
  | 0 => s
  | j + 1 => ho_s x aH (ho_s x aH (ht_s x aH pp s j) (s.2.2.2 (pp j) 2)) (s.2.2.2 (pp j) 6)
section HTK
variable {x aR aO aH aT : Nat} {rt ta : Nat → Nat} {s : Nat × th_S}
theorem ht_s_k (pp : Nat → Nat) : ∀ n, (ht_s x aH pp s n).2.1 = s.2.1
  | 0 => rfl
  | n + 1 => (ho_h_k x aH _ _).trans ((ho_h_k x aH _ _).trans (ht_s_k pp n))
theorem ht_s_r (pp : Nat → Nat) {b : Nat} (hb : b ≠ aH) : ∀ n, (ht_s x aH pp s n).2.2.2 b = s.2.2.2 b
  | 0 => rfl
  | n + 1 => (ho_h_r x aH _ _ hb).trans ((ho_h_r x aH _ _ hb).trans (ht_s_r pp hb n))
theorem ht_s_all (K : sh_K x aR aO aH aT rt ta s.2) (hC : ho_C x s) {n0 : Nat} (o : sh_O x aO n0 s.2) (pp : Nat → Nat) : ∀ n, (∀ j, j < n → s.2.1 (pp j) = some (3, 0)) → sh_K x aR aO aH aT rt ta (ht_s x aH pp s n).2 ∧ ho_C x (ht_s x aH pp s n) ∧ sh_O x aO n0 (ht_s x aH pp s n).2
  | 0, _ => ⟨K, hC, o⟩
  | n + 1, hp => by
    obtain ⟨k1, c1, o1⟩ := ht_s_all K hC o pp n (fun j hj => hp j (Nat.lt_succ_of_lt hj))
    have e0 : (ht_s x aH pp s n).2.1 = s.2.1 := ht_s_k pp n
    have t1 : ∀ b, s.2.2.2 (pp n) 2 = some b → (ht_s x aH pp s n).2.1 b = some (2, 0) := fun b hb => by rw [e0]; exact (K.pl (hp n (Nat.lt_succ_self n))).2.2.2.1 b hb
    have t2 : ∀ b, s.2.2.2 (pp n) 6 = some b → (ho_s x aH (ht_s x aH pp s n) (s.2.2.2 (pp n) 2)).2.1 b = some (2, 0) := fun b hb => by
      rw [show (ho_s x aH (ht_s x aH pp s n) (s.2.2.2 (pp n) 2)).2.1 = (ht_s x aH pp s n).2.1 from ho_h_k x aH _ _, e0]
      exact (K.pl (hp n (Nat.lt_succ_self n))).2.2.2.2 b hb
    have k2 := ho_s_K k1 t1
    have c2 := ho_s_C k1 c1 t1
    have o2 := ho_s_O k1 o1 (s.2.2.2 (pp n) 2)
    exact ⟨ho_s_K k2 t2, ho_s_C k2 c2 t2, ho_s_O k2 o2 _⟩
end HTK
end
section
-- StableHeap.hold
set_option maxHeartbeats 4000000 in
set_option maxRecDepth 100000 in
theorem c_X3_hold (l : Launch) (hl0 : l.stackTraces = false) (D : va_G) (cs : Nat → ClassId) (h : th_S) (sz : Nat) (x aR aO aH aT : Nat) (rt ta : Nat → Nat) (hK : sh_K x aR aO aH aT rt ta h) (k : Nat) (hk : ho_C x (k, h)) (r : Option Nat) (hr0 : ∀ b, r = some b → h.1 b = some (2, 0)) : th_M l yX3_hold wsX3_hold { frames := 0, cells := 0, slots := 0, locals := 0 } D cs h sz [.ref x, va_rf r] (fun v h' => v = none ∧ h' = ho_h x aH (k, h) r) (fun E h' => False) := by
  rcases r with _ | a
  · skip
    refine mw_ofW (cc := cX3_hold) (maxL := 2) (ret := none) (by decide) rfl (fun w h => List.mem_cons_of_mem _ h) th_cd (Nat.le_of_ble_eq_true rfl) ?_
    intro p e s m below meth c hsz hC hr hlk hnm htab hM ls hl
    have hC : th_C D cs h p m c cX3_hold 2 s [.ref x, .null] RX3 := hC
    have hx := hC.1.1
    have hb := hC.1.2.1
    have kx0 : h.1 x = some (0, 0) := hK.kx
    have hl : lv_has ls 2 [(0, .ref x), (1, .null)] := hl
    refine lv_aload_nN hx hb dX3_hold_0 rfl (lv_at hl 1 rfl) ?_
    refine lv_ifnullN (tgt := 48) hx hb dX3_hold_1 (by decide) ?_
    refine mw_vret hC hM hr hlk dX3_hold_48 (Nat.le_of_ble_eq_true rfl) (Nat.le_of_ble_eq_true rfl) ⟨_, rfl, ?_⟩
    exact ⟨rfl, rfl⟩
  · skip
    refine mw_ofW (cc := cX3_hold) (maxL := 2) (ret := none) (by decide) rfl (fun w h => List.mem_cons_of_mem _ h) th_cd (Nat.le_of_ble_eq_true rfl) ?_
    intro p e s m below meth c hsz hC hr hlk hnm htab hM ls hl
    have hC : th_C D cs h p m c cX3_hold 2 s [.ref x, .ref a] RX3 := hC
    have hx := hC.1.1
    have hb := hC.1.2.1
    have kx0 : h.1 x = some (0, 0) := hK.kx
    have hl : lv_has ls 2 [(0, .ref x), (1, .ref a)] := hl
    refine lv_aload_n hx hb dX3_hold_0 rfl (lv_at hl 1 rfl) ?_
    refine lv_ifnull hx hb dX3_hold_1 ?_
    refine lv_aload_n hx hb dX3_hold_4 rfl (lv_at hl 1 rfl) ?_
    refine gi_2_3 (index := 209) hC hM (hr0 a rfl) mb_101 dX3_hold_5 ?_
    refine lv_if_ne (tgt := 48) hx hb dX3_hold_8 (by decide) (fun c8 => ?_) (fun c8 => ?_)
    · refine mw_vret hC hM hr hlk dX3_hold_48 (Nat.le_of_ble_eq_true rfl) (Nat.le_of_ble_eq_true rfl) ⟨_, rfl, ?_⟩
      exact ⟨rfl, by rw [ho_h]; simp only []; rw [if_neg (fun q => c8 q.1)]⟩
    · refine lv_aload_n hx hb dX3_hold_11 rfl (lv_at hl 0 rfl) ?_
      refine gi_0_5 (index := 150) hC hM kx0 mb_129 dX3_hold_12 ?_
      rw [show h.2.1 x 5 = nI k from hk.1]
      refine lv_aload_n hx hb dX3_hold_15 rfl (lv_at hl 0 rfl) ?_
      refine gr_0_2 (index := 21) hC hM kx0 mb_126 dX3_hold_16 hK.xH ?_
      refine an_4 hC hM hK.kH dX3_hold_19 ?_
      refine lv_icmp_ge (tgt := 48) hx hb dX3_hold_20 (by decide) (fun c20 => ?_) (fun c20 => ?_)
      · refine mw_vret hC hM hr hlk dX3_hold_48 (Nat.le_of_ble_eq_true rfl) (Nat.le_of_ble_eq_true rfl) ⟨_, rfl, ?_⟩
        exact ⟨rfl, by rw [ho_h]; simp only []; rw [if_neg (fun q => absurd c20 (nI_ge q.2 (by decide)))]⟩
      · have hk80 : k < 80 := by
          rcases Nat.lt_or_ge k 80 with q | q
          · exact q
          · exact absurd (nI_le q (by have := hk.2; omega)) c20
        refine lv_aload_n hx hb dX3_hold_23 rfl (lv_at hl 1 rfl) ?_
        refine lv_iconst (v := 1) hx hb dX3_hold_24 (by decide) ?_
        refine pu_2_3 (index := 209) (v := 1) hC hM (hr0 a rfl) mb_101 (by first | exact Or.inl rfl | exact Or.inr rfl) dX3_hold_25 (fun H locs hM => ?_)
        refine lv_aload_n hx hb dX3_hold_28 rfl (lv_at hl 0 rfl) ?_
        refine gr_0_2 (index := 21) hC hM kx0 mb_126 dX3_hold_29 hK.xH ?_
        refine lv_aload_n hx hb dX3_hold_32 rfl (lv_at hl 0 rfl) ?_
        refine gi_0_5 (index := 150) hC hM kx0 mb_129 dX3_hold_33 ?_
        rw [show (th_ui h a 3 1).2.1 x 5 = nI k from (th_ui_n _ _ _ _ (th_kne hK.kx (hr0 a rfl) (by decide))).trans hk.1]
        refine lv_aload_n hx hb dX3_hold_36 rfl (lv_at hl 1 rfl) ?_
        refine as_4 (i := k) hC hM hK.kH (rfl) (hk80) (by first | decide | omega) (hr0 a rfl) dX3_hold_37 (fun H locs hM => ?_)
        refine lv_aload_n hx hb dX3_hold_38 rfl (lv_at hl 0 rfl) ?_
        refine lv_dup hx hb dX3_hold_39 rfl ?_
        refine gi_0_5 (index := 150) hC hM kx0 mb_129 dX3_hold_40 ?_
        rw [show (th_ur (th_ui h a 3 1) aH k (some a)).2.1 x 5 = nI k from (th_ui_n _ _ _ _ (th_kne hK.kx (hr0 a rfl) (by decide))).trans hk.1]
        refine lv_iconst (v := 1) hx hb dX3_hold_43 (by decide) ?_
        refine lv_iadd hx hb dX3_hold_44 ?_
        rw [show (nI k) + 1 = nI (k + 1) from nI_1 k]
        refine pu_0_5 (index := 150) (v := nI (k + 1)) hC hM kx0 mb_129 dX3_hold_45 (fun H locs hM => ?_)
        refine mw_vret hC hM hr hlk dX3_hold_48 (Nat.le_of_ble_eq_true rfl) (Nat.le_of_ble_eq_true rfl) ⟨_, rfl, ?_⟩
        exact ⟨rfl, by rw [ho_h]; simp only []; rw [if_pos ⟨c8, hk80⟩]⟩

-- the loop at 2 of StableHeap.holdTargets
set_option maxHeartbeats 4000000 in
set_option maxRecDepth 100000 in
theorem lo_X3_holdTargets_2 {l : Launch} (hl0 : l.stackTraces = false) {D : va_G} {cs : Nat → ClassId} {h : th_S} (x aR aO aH aT : Nat) (rt ta : Nat → Nat) (hK : sh_K x aR aO aH aT rt ta h) (n0 : Nat) (hO : sh_O x aO n0 h) (k : Nat) (hk : ho_C x (k, h)) (a : Nat) (ha : h.1 a = some (2, 0)) {p : Program} {e : Env} {s : State} {m : MethodId} {below : List Frame} {meth : Method} {c : Code} (hC : th_C D cs h p m c cX3_holdTargets 3 s [.ref x, .ref a] RX3) (hr : meth.sig.returnType = none) (hlk : meth.locks = false) (htab : ∀ x ∈ c.exceptionTable.toList, False) : ∀ (q : Nat) (i : Nat) (H : Heap) (locs : List Loc) (ls : Array Slot), (i + q = vw_np h a) → th_H D cs h s ((ht_s x aH (vw_pp h a) (k, h) i).2) H locs → lv_has ls 3 [(0, .ref x), (1, .ref a), (2, .int (nI i))] → W p l e { frames := 1, cells := 0, slots := 0, locals := 21 } s m [.ref x, .ref a].toArray below meth c H locs 0 0 (th_Q below D cs h s [.ref x, .ref a] (fun v h' => v = none ∧ h' = (ht_s x aH (vw_pp h a) (k, h) (vw_np h a)).2) (fun E h' => False) 0 0) (F0 m 2 ls []) := by
  have hx := hC.1.1
  have hb := hC.1.2.1
  intro q
  induction q with
  | zero =>
    intro i H locs ls hin hM hl
    have hv := hK.vw ha
    obtain ⟨hKi, hCi, hOi⟩ := ht_s_all (s := (k, h)) hK hk hO (vw_pp h a) i (fun j hj => (hv.2.2.2 j (by omega)).2)
    have ki : (ht_s x aH (vw_pp h a) (k, h) i).2.1 = h.1 := ht_s_k (vw_pp h a) i
    have kai : (ht_s x aH (vw_pp h a) (k, h) i).2.1 a = some (2, 0) := by rw [ki]; exact ha
    have kpi : (ht_s x aH (vw_pp h a) (k, h) i).2.1 (vw_pa h a) = some (6, vw_np h a) := by rw [ki]; exact hv.2.1
    have nah : a ≠ aH := th_kne ha hK.kH (by decide)
    have nph : vw_pa h a ≠ aH := th_kne hv.2.1 hK.kH (by simp)
    have rai : (ht_s x aH (vw_pp h a) (k, h) i).2.2.2 a 1 = some (vw_pa h a) := by rw [ht_s_r (s := (k, h)) (vw_pp h a) nah i]; exact hv.1
    have rpi : ∀ j, j < vw_np h a → (ht_s x aH (vw_pp h a) (k, h) i).2.2.2 (vw_pa h a) j = some (vw_pp h a j) := fun j hj => by rw [ht_s_r (s := (k, h)) (vw_pp h a) nph i]; exact (hv.2.2.2 j hj).1
    refine lv_iload_n hx hb dX3_holdTargets_2 rfl (lv_at hl 2 rfl) ?_
    refine lv_aload_n hx hb dX3_holdTargets_3 rfl (lv_at hl 1 rfl) ?_
    refine gr_2_1 (index := 103) hC hM kai mb_98 dX3_holdTargets_4 rai ?_
    refine an_6 hC hM kpi dX3_holdTargets_7 ?_
    refine lv_icmp_ge (tgt := 43) hx hb dX3_holdTargets_8 (by decide) (fun c8 => ?_) (fun c8 => ?_)
    · refine mw_vret hC hM hr hlk dX3_holdTargets_43 (Nat.le_of_ble_eq_true rfl) (Nat.le_of_ble_eq_true rfl) ⟨_, rfl, ?_⟩
      exact ⟨rfl, by rw [show vw_np h a = i by omega]⟩
    · exact absurd (nI_le (show vw_np h a ≤ i by omega) (by have := hv.2.2.1; omega)) c8
  | succ q ih =>
    intro i H locs ls hin hM hl
    have hv := hK.vw ha
    obtain ⟨hKi, hCi, hOi⟩ := ht_s_all (s := (k, h)) hK hk hO (vw_pp h a) i (fun j hj => (hv.2.2.2 j (by omega)).2)
    have ki : (ht_s x aH (vw_pp h a) (k, h) i).2.1 = h.1 := ht_s_k (vw_pp h a) i
    have kai : (ht_s x aH (vw_pp h a) (k, h) i).2.1 a = some (2, 0) := by rw [ki]; exact ha
    have kpi : (ht_s x aH (vw_pp h a) (k, h) i).2.1 (vw_pa h a) = some (6, vw_np h a) := by rw [ki]; exact hv.2.1
    have nah : a ≠ aH := th_kne ha hK.kH (by decide)
    have nph : vw_pa h a ≠ aH := th_kne hv.2.1 hK.kH (by simp)
    have rai : (ht_s x aH (vw_pp h a) (k, h) i).2.2.2 a 1 = some (vw_pa h a) := by rw [ht_s_r (s := (k, h)) (vw_pp h a) nah i]; exact hv.1
    have rpi : ∀ j, j < vw_np h a → (ht_s x aH (vw_pp h a) (k, h) i).2.2.2 (vw_pa h a) j = some (vw_pp h a j) := fun j hj => by rw [ht_s_r (s := (k, h)) (vw_pp h a) nph i]; exact (hv.2.2.2 j hj).1
    have hi9 : i < vw_np h a := by omega
    have kq : h.1 (vw_pp h a i) = some (3, 0) := (hv.2.2.2 i hi9).2
    have nqh : vw_pp h a i ≠ aH := th_kne kq hK.kH (by decide)
    have kqi : (ht_s x aH (vw_pp h a) (k, h) i).2.1 (vw_pp h a i) = some (3, 0) := by rw [ki]; exact kq
    have rq : ∀ j, (ht_s x aH (vw_pp h a) (k, h) i).2.2.2 (vw_pp h a i) j = h.2.2 (vw_pp h a i) j := fun j => by rw [ht_s_r (s := (k, h)) (vw_pp h a) nqh i]
    have t1 : ∀ b, h.2.2 (vw_pp h a i) 2 = some b → (ht_s x aH (vw_pp h a) (k, h) i).2.1 b = some (2, 0) := fun b hb => by rw [ki]; exact (hK.pl kq).2.2.2.1 b hb
    have hK2 := ho_s_K hKi t1
    have hC2 := ho_s_C hKi hCi t1
    have k2 : (ho_s x aH (ht_s x aH (vw_pp h a) (k, h) i) (h.2.2 (vw_pp h a i) 2)).2.1 = h.1 := (ho_h_k x aH _ _).trans ki
    have t2 : ∀ b, h.2.2 (vw_pp h a i) 6 = some b → (ho_s x aH (ht_s x aH (vw_pp h a) (k, h) i) (h.2.2 (vw_pp h a i) 2)).2.1 b = some (2, 0) := fun b hb => by rw [k2]; exact (hK.pl kq).2.2.2.2 b hb
    refine lv_iload_n hx hb dX3_holdTargets_2 rfl (lv_at hl 2 rfl) ?_
    refine lv_aload_n hx hb dX3_holdTargets_3 rfl (lv_at hl 1 rfl) ?_
    refine gr_2_1 (index := 103) hC hM kai mb_98 dX3_holdTargets_4 rai ?_
    refine an_6 hC hM kpi dX3_holdTargets_7 ?_
    refine lv_icmp_ge (tgt := 43) hx hb dX3_holdTargets_8 (by decide) (fun c8 => ?_) (fun c8 => ?_)
    · exact absurd c8 (nI_ge (by omega) (by have := hv.2.2.1; omega))
    · refine lv_aload_n hx hb dX3_holdTargets_11 rfl (lv_at hl 0 rfl) ?_
      refine lv_aload_n hx hb dX3_holdTargets_12 rfl (lv_at hl 1 rfl) ?_
      refine gr_2_1 (index := 103) hC hM kai mb_98 dX3_holdTargets_13 rai ?_
      refine lv_iload_n hx hb dX3_holdTargets_16 rfl (lv_at hl 2 rfl) ?_
      refine al_6 (i := i) hC hM kpi (rfl) (hi9) (by first | decide | omega) (rpi i hi9) dX3_holdTargets_17 ?_
      refine gr_3_2 (index := 123) hC hM kqi mb_74 dX3_holdTargets_18 (rq 2) ?_
      refine mw_callV (As := [va_rf (h.2.2 (vw_pp h a i) 2)]) (rest := []) (n := 1) (C := RX3) (T := TX3) (N := 11) (ci := 3) hC hM (c_X3_hold l hl0 D cs ((ht_s x aH (vw_pp h a) (k, h) i).2) H.size x aR aO aH aT rt ta hKi (ht_s x aH (vw_pp h a) (k, h) i).1 hCi (h.2.2 (vw_pp h a i) 2) t1) (cwV 1 hC.1.2.2.2.2 (tb_V mb_198 mb_199 mb_4 mb_36 mb_200) rfl rfl rfl (by decide +kernel) ⟨Nat.le_of_ble_eq_true rfl, Nat.le_of_ble_eq_true rfl⟩) (th_at (h := (ht_s x aH (vw_pp h a) (k, h) i).2) hKi.kx) rfl rfl rfl hl.1 (Nat.le_of_ble_eq_true rfl) dX3_holdTargets_21 ⟨Nat.le_of_ble_eq_true rfl, Nat.le_of_ble_eq_true rfl⟩ (fun E ce q9 g9 H locs hp9 hM hce hcv hcl => ?_) (fun v9 g9 H locs hp9 hM => ?_)
      · exact (hp9.elim fun _ h9 => h9.2.elim)
      obtain ⟨h21, rfl, hp9⟩ := hp9
      obtain ⟨rfl, rfl⟩ := hp9
      refine W.eq (g2 := F0 m 24 ls []) rfl ?_
      refine lv_aload_n hx hb dX3_holdTargets_24 rfl (lv_at hl 0 rfl) ?_
      refine lv_aload_n hx hb dX3_holdTargets_25 rfl (lv_at hl 1 rfl) ?_
      refine gr_2_1 (index := 103) hC hM (show _ = some (2, 0) by rw [show (ho_h x aH (ht_s x aH (vw_pp h a) (k, h) i) (h.2.2 (vw_pp h a i) 2)).1 = h.1 from k2]; exact ha) mb_98 dX3_holdTargets_26 ((congrFun (ho_h_r x aH _ _ nah) 1).trans rai) ?_
      refine lv_iload_n hx hb dX3_holdTargets_29 rfl (lv_at hl 2 rfl) ?_
      refine al_6 (i := i) hC hM (show _ = some (6, vw_np h a) by rw [show (ho_h x aH (ht_s x aH (vw_pp h a) (k, h) i) (h.2.2 (vw_pp h a i) 2)).1 = h.1 from k2]; exact hv.2.1) (rfl) (hi9) (by first | decide | omega) ((congrFun (ho_h_r x aH _ _ nph) i).trans (rpi i hi9)) dX3_holdTargets_30 ?_
      refine gr_3_6 (index := 218) hC hM (show _ = some (3, 0) by rw [show (ho_h x aH (ht_s x aH (vw_pp h a) (k, h) i) (h.2.2 (vw_pp h a i) 2)).1 = h.1 from k2]; exact kq) mb_79 dX3_holdTargets_31 ((congrFun (ho_h_r x aH _ _ nqh) 6).trans (rq 6)) ?_
      refine mw_callV (As := [va_rf (h.2.2 (vw_pp h a i) 6)]) (rest := []) (n := 1) (C := RX3) (T := TX3) (N := 11) (ci := 3) hC hM (c_X3_hold l hl0 D cs (ho_h x aH (ht_s x aH (vw_pp h a) (k, h) i) (h.2.2 (vw_pp h a i) 2)) H.size x aR aO aH aT rt ta hK2 (ho_s x aH (ht_s x aH (vw_pp h a) (k, h) i) (h.2.2 (vw_pp h a i) 2)).1 hC2 (h.2.2 (vw_pp h a i) 6) t2) (cwV 1 hC.1.2.2.2.2 (tb_V mb_198 mb_199 mb_4 mb_36 mb_200) rfl rfl rfl (by decide +kernel) ⟨Nat.le_of_ble_eq_true rfl, Nat.le_of_ble_eq_true rfl⟩) (th_at (h := ho_h x aH (ht_s x aH (vw_pp h a) (k, h) i) (h.2.2 (vw_pp h a i) 2)) hK2.kx) rfl rfl rfl hl.1 (Nat.le_of_ble_eq_true rfl) dX3_holdTargets_34 ⟨Nat.le_of_ble_eq_true rfl, Nat.le_of_ble_eq_true rfl⟩ (fun E ce q9 g9 H locs hp9 hM hce hcv hcl => ?_) (fun v9 g9 H locs hp9 hM => ?_)
      · exact (hp9.elim fun _ h9 => h9.2.elim)
      obtain ⟨h34, rfl, hp9⟩ := hp9
      obtain ⟨rfl, rfl⟩ := hp9
      refine W.eq (g2 := F0 m 37 ls []) rfl ?_
      refine lv_iinc (v := nI (i + 1)) (lv' := [(2, .int (nI (i + 1))), (0, .ref x), (1, .ref a)]) hx hb dX3_holdTargets_37 hl (k := 2) rfl (by exact nI_1 i) (by first | decide | omega) rfl (fun ls hl => ?_)
      refine lv_goto (tgt := 2) hx hb dX3_holdTargets_40 (by decide) ?_
      exact ih (i + 1) H locs ls (by omega) hM (lv_sub hl [1, 2, 0] rfl)

-- StableHeap.holdTargets
set_option maxHeartbeats 4000000 in
set_option maxRecDepth 100000 in
theorem c_X3_holdTargets (l : Launch) (hl0 : l.stackTraces = false) (D : va_G) (cs : Nat → ClassId) (h : th_S) (sz : Nat) (x aR aO aH aT : Nat) (rt ta : Nat → Nat) (hK : sh_K x aR aO aH aT rt ta h) (n0 : Nat) (hO : sh_O x aO n0 h) (k : Nat) (hk : ho_C x (k, h)) (a : Nat) (ha : h.1 a = some (2, 0)) : th_M l yX3_holdTargets wsX3_holdTargets { frames := 1, cells := 0, slots := 0, locals := 21 } D cs h sz [.ref x, .ref a] (fun v h' => v = none ∧ h' = (ht_s x aH (vw_pp h a) (k, h) (vw_np h a)).2) (fun E h' => False) := by
  refine mw_ofW (cc := cX3_holdTargets) (maxL := 3) (ret := none) (by decide) rfl (fun w h => List.mem_cons_of_mem _ h) th_cd (Nat.le_of_ble_eq_true rfl) ?_
  intro p e s m below meth c hsz hC hr hlk hnm htab hM ls hl
  have hC : th_C D cs h p m c cX3_holdTargets 3 s [.ref x, .ref a] RX3 := hC
  have hx := hC.1.1
  have hb := hC.1.2.1
  have kx0 : h.1 x = some (0, 0) := hK.kx
  have hl : lv_has ls 3 [(0, .ref x), (1, .ref a)] := hl
  refine lv_iconst (v := 0) hx hb dX3_holdTargets_0 (by decide) ?_
  refine lv_istore_n (lv' := [(2, .int 0), (0, .ref x), (1, .ref a)]) hx hb dX3_holdTargets_1 rfl hl (by decide) rfl (fun ls hl => ?_)
  exact lo_X3_holdTargets_2 hl0 x aR aO aH aT rt ta hK n0 hO k hk a ha hC hr hlk htab (vw_np h a) 0 _ _ ls (by omega) hM (lv_sub hl [1, 2, 0] rfl)
end
section
/-! findHeld, as a function -/
def hta (x aH : Nat) (s : Nat × th_S) (a : Nat) : Nat × th_S := ht_s x aH (vw_pp s.2 a) s (vw_np s.2 a)
def fc_h (ob : Nat → Nat) (h : th_S) : Nat → th_S
  | 0 => h
  | j + 1 => th_ui (fc_h ob h j) (ob j) 3 0
def fr_s (x aH : Nat) (rt : Nat → Nat) (s : Nat × th_S) : Nat → Nat × th_S
  | 0 => s
  | j + 1 => hta x aH (fr_s x aH rt s j) (rt j)
def fo_s (x aH : Nat) (ob : Nat → Nat) (s : Nat × th_S) : Nat → Nat × th_S
  | 0 => s
  | j + 1 => if (fo_s x aH ob s j).2.2.1 (ob j) 2 = 0 then fo_s x aH ob s j else ho_s x aH (fo_s x aH ob s j) (some (ob j))
def fw_s (x aH : Nat) : Nat → Nat → Nat × th_S → Nat × th_S
  | 0, _, s => s
  | f + 1, i, s => if i < s.1 then fw_s x aH f (i + 1) (hta x aH s ((s.2.2.2 aH i).getD 0)) else s
def fh_1 (x aO n : Nat) (h : th_S) : Nat × th_S := (0, fc_h (vw_ob aO h) (th_ui h x 5 0) n)
def fh_2 (x aO aH n : Nat) (rt : Nat → Nat) (h : th_S) : Nat × th_S := fr_s x aH rt (fh_1 x aO n h) 4
def fh_3 (x aO aH n : Nat) (rt : Nat → Nat) (h : th_S) : Nat × th_S := fo_s x aH (vw_ob aO h) (fh_2 x aO aH n rt h) n
def sh_fh (x aO aH n : Nat) (rt : Nat → Nat) (h : th_S) : Nat × th_S := fw_s x aH 80 0 (fh_3 x aO aH n rt h)
def fh_I (x aR aO aH aT : Nat) (rt ta : Nat → Nat) (n : Nat) (s : Nat × th_S) : Prop :=
  sh_K x aR aO aH aT rt ta s.2 ∧ ho_C x s ∧ sh_O x aO n s.2 ∧ ∀ i, i < s.1 → ∃ a, s.2.2.2 aH i = some a ∧ s.2.1 a = some (2, 0)
section FHI
variable {x aR aO aH aT : Nat} {rt ta : Nat → Nat} {n : Nat} {s : Nat × th_S}
theorem fh_I.ho (I : fh_I x aR aO aH aT rt ta n s) {r : Option Nat} (hr : ∀ b, r = some b → s.2.1 b = some (2, 0)) : fh_I x aR aO aH aT rt ta n (ho_s x aH s r) := by
  refine ⟨ho_s_K I.1 hr, ho_s_C I.1 I.2.1 hr, ho_s_O I.1 I.2.2.1 r, ?_⟩
  unfold ho_s ho_h ho_k
  split
  · exact I.2.2.2
  · rename_i a
    by_cases hc : s.2.2.1 a 3 = 0 ∧ s.1 < 80
    · simp only [if_pos hc]
      intro i hi
      show ∃ b, (th_ur (th_ui s.2 a 3 1) aH s.1 (some a)).2.2 aH i = some b ∧ s.2.1 b = some (2, 0)
      by_cases e : i = s.1
      · rw [e, th_ur_s]
        exact ⟨a, rfl, hr a rfl⟩
      · rw [th_ur_k _ _ _ e]
        exact I.2.2.2 i (by omega)
    · simp only [if_neg hc]
      exact I.2.2.2
theorem fh_I.ht (I : fh_I x aR aO aH aT rt ta n s) (pp : Nat → Nat) : ∀ m, (∀ j, j < m → s.2.1 (pp j) = some (3, 0)) → fh_I x aR aO aH aT rt ta n (ht_s x aH pp s m)
  | 0, _ => I
  | m + 1, hp => by
    have I1 := I.ht pp m (fun j hj => hp j (Nat.lt_succ_of_lt hj))
    have e0 : (ht_s x aH pp s m).2.1 = s.2.1 := ht_s_k pp m
    have I2 := I1.ho (r := s.2.2.2 (pp m) 2) (fun b hb => by rw [e0]; exact (I.1.pl (hp m (Nat.lt_succ_self m))).2.2.2.1 b hb)
    exact I2.ho (r := s.2.2.2 (pp m) 6) (fun b hb => by
      rw [show (ho_s x aH (ht_s x aH pp s m) (s.2.2.2 (pp m) 2)).2.1 = (ht_s x aH pp s m).2.1 from ho_h_k x aH _ _, e0]
      exact (I.1.pl (hp m (Nat.lt_succ_self m))).2.2.2.2 b hb)
theorem fh_I.hta (I : fh_I x aR aO aH aT rt ta n s) {a : Nat} (ha : s.2.1 a = some (2, 0)) : fh_I x aR aO aH aT rt ta n (hta x aH s a) :=
  I.ht _ _ (fun j hj => ((I.1.vw ha).2.2.2 j hj).2)
theorem hta_k (a : Nat) : (hta x aH s a).2.1 = s.2.1 := ht_s_k _ _
theorem hta_r {a b : Nat} (hb : b ≠ aH) : (hta x aH s a).2.2.2 b = s.2.2.2 b := ht_s_r _ hb _
theorem fr_s_k (ob : Nat → Nat) : ∀ m, (fr_s x aH ob s m).2.1 = s.2.1
  | 0 => rfl
  | m + 1 => (hta_k _).trans (fr_s_k ob m)
theorem fr_s_r (ob : Nat → Nat) {b : Nat} (hb : b ≠ aH) : ∀ m, (fr_s x aH ob s m).2.2.2 b = s.2.2.2 b
  | 0 => rfl
  | m + 1 => (hta_r hb).trans (fr_s_r ob hb m)
theorem fh_I.fr (I : fh_I x aR aO aH aT rt ta n s) (ob : Nat → Nat) : ∀ m, (∀ j, j < m → s.2.1 (ob j) = some (2, 0)) → fh_I x aR aO aH aT rt ta n (fr_s x aH ob s m)
  | 0, _ => I
  | m + 1, hp => (I.fr ob m (fun j hj => hp j (Nat.lt_succ_of_lt hj))).hta (by rw [fr_s_k]; exact hp m (Nat.lt_succ_self m))
theorem fo_s_k (ob : Nat → Nat) : ∀ m, (fo_s x aH ob s m).2.1 = s.2.1
  | 0 => rfl
  | m + 1 => by
    unfold fo_s
    split
    · exact fo_s_k ob m
    · exact (ho_h_k x aH _ _).trans (fo_s_k ob m)
theorem fo_s_r (ob : Nat → Nat) {b : Nat} (hb : b ≠ aH) : ∀ m, (fo_s x aH ob s m).2.2.2 b = s.2.2.2 b
  | 0 => rfl
  | m + 1 => by
    unfold fo_s
    split
    · exact fo_s_r ob hb m
    · exact (ho_h_r x aH _ _ hb).trans (fo_s_r ob hb m)
theorem fh_I.fo (I : fh_I x aR aO aH aT rt ta n s) (ob : Nat → Nat) : ∀ m, (∀ j, j < m → s.2.1 (ob j) = some (2, 0)) → fh_I x aR aO aH aT rt ta n (fo_s x aH ob s m)
  | 0, _ => I
  | m + 1, hp => by
    have I1 := I.fo ob m (fun j hj => hp j (Nat.lt_succ_of_lt hj))
    unfold fo_s
    split
    · exact I1
    · exact I1.ho (fun b hb => by cases hb; rw [fo_s_k]; exact hp m (Nat.lt_succ_self m))
theorem fh_I.fw : ∀ (f i : Nat) {s : Nat × th_S}, fh_I x aR aO aH aT rt ta n s → fh_I x aR aO aH aT rt ta n (fw_s x aH f i s)
  | 0, _, _, I => I
  | f + 1, i, s, I => by
    unfold fw_s
    split
    · rename_i hi
      obtain ⟨a, e, k⟩ := I.2.2.2 i hi
      exact fh_I.fw f (i + 1) (I.hta (by rw [e]; exact k))
    · exact I
end FHI
section FC
variable {x aR aO aH aT : Nat} {rt ta : Nat → Nat} {h : th_S}
theorem fc_h_k (ob : Nat → Nat) : ∀ m, (fc_h ob h m).1 = h.1
  | 0 => rfl
  | m + 1 => fc_h_k ob m
theorem fc_h_r (ob : Nat → Nat) : ∀ m, (fc_h ob h m).2.2 = h.2.2
  | 0 => rfl
  | m + 1 => fc_h_r ob m
theorem fc_h_i (ob : Nat → Nat) {b j : Nat} (hj : j ≠ 3) : ∀ m, (fc_h ob h m).2.1 b j = h.2.1 b j
  | 0 => rfl
  | m + 1 => by
    show (th_ui (fc_h ob h m) (ob m) 3 0).2.1 b j = _
    by_cases e : b = ob m
    · rw [e, th_ui_k _ _ _ hj]; exact fc_h_i ob hj m
    · rw [th_ui_n _ _ _ _ e]; exact fc_h_i ob hj m
theorem fc_h_K (K : sh_K x aR aO aH aT rt ta h) (ob : Nat → Nat) : ∀ m, (∀ j, j < m → h.1 (ob j) = some (2, 0)) → sh_K x aR aO aH aT rt ta (fc_h ob h m)
  | 0, _ => K
  | m + 1, hp => (fc_h_K K ob m (fun j hj => hp j (Nat.lt_succ_of_lt hj))).uk (by rw [fc_h_k]; exact hp m (Nat.lt_succ_self m)) (by decide)
theorem fh_1_I (K : sh_K x aR aO aH aT rt ta h) {n : Nat} (o : sh_O x aO n h) {m : Nat} (hm : m ≤ n) : fh_I x aR aO aH aT rt ta n (0, fc_h (vw_ob aO h) (th_ui h x 5 0) m) := by
  have K1 := K.uk (j := 5) (v := 0) K.kx (by decide)
  refine ⟨fc_h_K K1 _ m (fun j hj => (o.ob (by omega)).2), ⟨?_, Nat.zero_le _⟩, ⟨o.1, ?_, fun i hi => ?_⟩, fun i hi => absurd hi (Nat.not_lt_zero i)⟩
  · show (fc_h (vw_ob aO h) (th_ui h x 5 0) m).2.1 x 5 = nI 0
    rw [fc_h_i _ (by decide), th_ui_s]
    rfl
  · show (fc_h (vw_ob aO h) (th_ui h x 5 0) m).2.1 x 4 = nI n
    rw [fc_h_i _ (by decide), th_ui_k _ _ _ (by decide)]
    exact o.2.1
  · show ∃ a, (fc_h (vw_ob aO h) (th_ui h x 5 0) m).2.2 aO i = some a ∧ (fc_h (vw_ob aO h) (th_ui h x 5 0) m).1 a = some (2, 0)
    rw [fc_h_r, fc_h_k]
    exact o.2.2 i hi
theorem fh_2_I (K : sh_K x aR aO aH aT rt ta h) {n : Nat} (o : sh_O x aO n h) {m : Nat} (hm : m ≤ 4) : fh_I x aR aO aH aT rt ta n (fr_s x aH rt (fh_1 x aO n h) m) :=
  (fh_1_I K o (Nat.le_refl n)).fr rt m (fun j hj => by show (fc_h (vw_ob aO h) (th_ui h x 5 0) n).1 (rt j) = _; rw [fc_h_k]; exact K.krt (by omega))
theorem fh_2_k (n : Nat) (m : Nat) : (fr_s x aH rt (fh_1 x aO n h) m).2.1 = h.1 := (fr_s_k rt m).trans (fc_h_k _ n)
theorem fh_2_r (n : Nat) {b : Nat} (hb : b ≠ aH) (m : Nat) : (fr_s x aH rt (fh_1 x aO n h) m).2.2.2 b = h.2.2 b := (fr_s_r rt hb m).trans (by show (fc_h (vw_ob aO h) (th_ui h x 5 0) n).2.2 b = _; rw [fc_h_r]; rfl)
theorem fh_3_k (n : Nat) (m : Nat) : (fo_s x aH (vw_ob aO h) (fh_2 x aO aH n rt h) m).2.1 = h.1 := (fo_s_k _ m).trans (fh_2_k n 4)
theorem fh_3_r (n : Nat) {b : Nat} (hb : b ≠ aH) (m : Nat) : (fo_s x aH (vw_ob aO h) (fh_2 x aO aH n rt h) m).2.2.2 b = h.2.2 b := (fo_s_r _ hb m).trans (fh_2_r n hb 4)
theorem fh_3_I (K : sh_K x aR aO aH aT rt ta h) {n : Nat} (o : sh_O x aO n h) {m : Nat} (hm : m ≤ n) : fh_I x aR aO aH aT rt ta n (fo_s x aH (vw_ob aO h) (fh_2 x aO aH n rt h) m) :=
  (fh_2_I K o (Nat.le_refl 4)).fo _ m (fun j hj => by rw [fh_2_k n 4]; exact (o.ob (by omega)).2)
end FC
end
section
-- the loop at 94 of StableHeap.findHeld
set_option maxHeartbeats 4000000 in
set_option maxRecDepth 100000 in
theorem lo_X3_findHeld_94 {l : Launch} (hl0 : l.stackTraces = false) {D : va_G} {cs : Nat → ClassId} {h : th_S} (x aR aO aH aT : Nat) (rt ta : Nat → Nat) (hK : sh_K x aR aO aH aT rt ta h) (n : Nat) (hO : sh_O x aO n h) {p : Program} {e : Env} {s : State} {m : MethodId} {below : List Frame} {meth : Method} {c : Code} (hC : th_C D cs h p m c cX3_findHeld 2 s [.ref x] RX3) (hr : meth.sig.returnType = none) (hlk : meth.locks = false) (htab : ∀ x ∈ c.exceptionTable.toList, False) : ∀ (q : Nat) (i : Nat) (u : Nat × th_S) (H : Heap) (locs : List Loc) (ls : Array Slot), (i + q = 80) → (fh_I x aR aO aH aT rt ta n u) → (fw_s x aH q i u = sh_fh x aO aH n rt h) → th_H D cs h s u.2 H locs → lv_has ls 2 [(0, .ref x), (1, .int (nI i))] → W p l e { frames := 2, cells := 0, slots := 0, locals := 43 } s m [.ref x].toArray below meth c H locs 0 0 (th_Q below D cs h s [.ref x] (fun v h' => v = none ∧ h' = (sh_fh x aO aH n rt h).2) (fun E h' => False) 0 0) (F0 m 94 ls []) := by
  have hx := hC.1.1
  have hb := hC.1.2.1
  intro q
  induction q with
  | zero =>
    intro i u H locs ls hin hI heq hM hl
    obtain ⟨hKu, hCu, hOu, hWu⟩ := hI
    refine lv_iload_n hx hb dX3_findHeld_94 rfl (lv_at hl 1 rfl) ?_
    refine lv_aload_n hx hb dX3_findHeld_95 rfl (lv_at hl 0 rfl) ?_
    refine gi_0_5 (index := 150) hC hM hKu.kx mb_129 dX3_findHeld_96 ?_
    rw [show u.2.2.1 x 5 = nI u.1 from hCu.1]
    refine lv_icmp_ge (tgt := 127) hx hb dX3_findHeld_99 (by decide) (fun c99 => ?_) (fun c99 => ?_)
    · refine mw_vret hC hM hr hlk dX3_findHeld_127 (Nat.le_of_ble_eq_true rfl) (Nat.le_of_ble_eq_true rfl) ⟨_, rfl, ?_⟩
      exact ⟨rfl, by rw [← heq]; rfl⟩
    · exact absurd (nI_le (show u.1 ≤ i by have := hCu.2; omega) (by omega)) c99
  | succ q ih =>
    intro i u H locs ls hin hI heq hM hl
    obtain ⟨hKu, hCu, hOu, hWu⟩ := hI
    refine lv_iload_n hx hb dX3_findHeld_94 rfl (lv_at hl 1 rfl) ?_
    refine lv_aload_n hx hb dX3_findHeld_95 rfl (lv_at hl 0 rfl) ?_
    refine gi_0_5 (index := 150) hC hM hKu.kx mb_129 dX3_findHeld_96 ?_
    rw [show u.2.2.1 x 5 = nI u.1 from hCu.1]
    refine lv_icmp_ge (tgt := 127) hx hb dX3_findHeld_99 (by decide) (fun c99 => ?_) (fun c99 => ?_)
    · refine mw_vret hC hM hr hlk dX3_findHeld_127 (Nat.le_of_ble_eq_true rfl) (Nat.le_of_ble_eq_true rfl) ⟨_, rfl, ?_⟩
      exact ⟨rfl, by rw [← heq, fw_s, if_neg (fun q9 => absurd c99 (nI_ge q9 (by have := hCu.2; omega)))]⟩
    · have hiu : i < u.1 := by
        rcases Nat.lt_or_ge i u.1 with q9 | q9
        · exact q9
        · exact absurd (nI_le q9 (by omega)) c99
      obtain ⟨a, ea, ka⟩ := hWu i hiu
      refine lv_iload_n hx hb dX3_findHeld_102 rfl (lv_at hl 1 rfl) ?_
      refine lv_aload_n hx hb dX3_findHeld_103 rfl (lv_at hl 0 rfl) ?_
      refine gr_0_2 (index := 21) hC hM hKu.kx mb_126 dX3_findHeld_104 hKu.xH ?_
      refine an_4 hC hM hKu.kH dX3_findHeld_107 ?_
      refine lv_icmp_ge (tgt := 127) hx hb dX3_findHeld_108 (by decide) (fun c108 => ?_) (fun c108 => ?_)
      · exact absurd c108 (nI_ge (by omega) (by decide))
      · refine lv_aload_n hx hb dX3_findHeld_111 rfl (lv_at hl 0 rfl) ?_
        refine lv_aload_n hx hb dX3_findHeld_112 rfl (lv_at hl 0 rfl) ?_
        refine gr_0_2 (index := 21) hC hM hKu.kx mb_126 dX3_findHeld_113 hKu.xH ?_
        refine lv_iload_n hx hb dX3_findHeld_116 rfl (lv_at hl 1 rfl) ?_
        refine al_4 (i := i) hC hM hKu.kH (rfl) (by omega) (by first | decide | omega) ea dX3_findHeld_117 ?_
        refine mw_callV (As := [.ref a]) (rest := []) (n := 1) (C := RX3) (T := TX3) (N := 11) (ci := 3) hC hM (c_X3_holdTargets l hl0 D cs u.2 H.size x aR aO aH aT rt ta hKu n hOu u.1 hCu a ka) (cwV 1 hC.1.2.2.2.2 (tb_V mb_195 mb_196 mb_3 mb_36 mb_197) rfl rfl rfl (by decide +kernel) ⟨Nat.le_of_ble_eq_true rfl, Nat.le_of_ble_eq_true rfl⟩) (th_at (h := u.2) hKu.kx) rfl rfl rfl hl.1 (Nat.le_of_ble_eq_true rfl) dX3_findHeld_118 ⟨Nat.le_of_ble_eq_true rfl, Nat.le_of_ble_eq_true rfl⟩ (fun E ce q9 g9 H locs hp9 hM hce hcv hcl => ?_) (fun v9 g9 H locs hp9 hM => ?_)
        · exact (hp9.elim fun _ h9 => h9.2.elim)
        obtain ⟨h118, rfl, hp9⟩ := hp9
        obtain ⟨rfl, rfl⟩ := hp9
        refine W.eq (g2 := F0 m 121 ls []) rfl ?_
        refine lv_iinc (v := nI (i + 1)) (lv' := [(1, .int (nI (i + 1))), (0, .ref x)]) hx hb dX3_findHeld_121 hl (k := 1) rfl (by exact nI_1 i) (by first | decide | omega) rfl (fun ls hl => ?_)
        refine lv_goto (tgt := 94) hx hb dX3_findHeld_124 (by decide) ?_
        exact ih (i + 1) (hta x aH u a) H locs ls (by omega) ((show fh_I x aR aO aH aT rt ta n u from ⟨hKu, hCu, hOu, hWu⟩).hta ka) (by rw [← heq, fw_s, if_pos hiu, ea]; rfl) hM (lv_sub hl [1, 0] rfl)

-- the loop at 56 of StableHeap.findHeld
set_option maxHeartbeats 4000000 in
set_option maxRecDepth 100000 in
theorem lo_X3_findHeld_56 {l : Launch} (hl0 : l.stackTraces = false) {D : va_G} {cs : Nat → ClassId} {h : th_S} (x aR aO aH aT : Nat) (rt ta : Nat → Nat) (hK : sh_K x aR aO aH aT rt ta h) (n : Nat) (hO : sh_O x aO n h) {p : Program} {e : Env} {s : State} {m : MethodId} {below : List Frame} {meth : Method} {c : Code} (hC : th_C D cs h p m c cX3_findHeld 2 s [.ref x] RX3) (hr : meth.sig.returnType = none) (hlk : meth.locks = false) (htab : ∀ x ∈ c.exceptionTable.toList, False) : ∀ (q : Nat) (i : Nat) (H : Heap) (locs : List Loc) (ls : Array Slot), (i + q = n) → th_H D cs h s ((fo_s x aH (vw_ob aO h) (fh_2 x aO aH n rt h) i).2) H locs → lv_has ls 2 [(0, .ref x), (1, .int (nI i))] → W p l e { frames := 2, cells := 0, slots := 0, locals := 43 } s m [.ref x].toArray below meth c H locs 0 0 (th_Q below D cs h s [.ref x] (fun v h' => v = none ∧ h' = (sh_fh x aO aH n rt h).2) (fun E h' => False) 0 0) (F0 m 56 ls []) := by
  have hx := hC.1.1
  have hb := hC.1.2.1
  intro q
  induction q with
  | zero =>
    intro i H locs ls hin hM hl
    obtain ⟨hKu, hCu, hOu, hWu⟩ := fh_3_I hK hO (show i ≤ n by omega)
    have ku : (fo_s x aH (vw_ob aO h) (fh_2 x aO aH n rt h) i).2.1 = h.1 := fh_3_k n i
    have ru : ∀ j, (fo_s x aH (vw_ob aO h) (fh_2 x aO aH n rt h) i).2.2.2 aO j = h.2.2 aO j := fun j => by rw [fh_3_r n hK.2.2.1.2.2 i]
    refine lv_iload_n hx hb dX3_findHeld_56 rfl (lv_at hl 1 rfl) ?_
    refine lv_aload_n hx hb dX3_findHeld_57 rfl (lv_at hl 0 rfl) ?_
    refine gi_0_4 (index := 60) hC hM hKu.kx mb_128 dX3_findHeld_58 ?_
    rw [show ((fo_s x aH (vw_ob aO h) (fh_2 x aO aH n rt h) i).2).2.1 x 4 = nI n from hOu.2.1]
    refine lv_icmp_ge (tgt := 92) hx hb dX3_findHeld_61 (by decide) (fun c61 => ?_) (fun c61 => ?_)
    · refine lv_iconst (v := 0) hx hb dX3_findHeld_92 (by decide) ?_
      refine lv_istore_n (lv' := [(1, .int 0), (0, .ref x)]) hx hb dX3_findHeld_93 rfl hl (by decide) rfl (fun ls hl => ?_)
      exact lo_X3_findHeld_94 hl0 x aR aO aH aT rt ta hK n hO hC hr hlk htab 80 0 (fh_3 x aO aH n rt h) _ _ ls (by omega) (fh_3_I hK hO (Nat.le_refl n)) rfl (by rw [show i = n by omega] at hM; exact hM) (lv_sub hl [1, 0] rfl)
    · exact absurd (nI_le (show n ≤ i by omega) (by have := hO.1; omega)) c61
  | succ q ih =>
    intro i H locs ls hin hM hl
    obtain ⟨hKu, hCu, hOu, hWu⟩ := fh_3_I hK hO (show i ≤ n by omega)
    have ku : (fo_s x aH (vw_ob aO h) (fh_2 x aO aH n rt h) i).2.1 = h.1 := fh_3_k n i
    have ru : ∀ j, (fo_s x aH (vw_ob aO h) (fh_2 x aO aH n rt h) i).2.2.2 aO j = h.2.2 aO j := fun j => by rw [fh_3_r n hK.2.2.1.2.2 i]
    have kb : (fo_s x aH (vw_ob aO h) (fh_2 x aO aH n rt h) i).2.1 (vw_ob aO h i) = some (2, 0) := by rw [ku]; exact (hO.ob (by omega)).2
    refine lv_iload_n hx hb dX3_findHeld_56 rfl (lv_at hl 1 rfl) ?_
    refine lv_aload_n hx hb dX3_findHeld_57 rfl (lv_at hl 0 rfl) ?_
    refine gi_0_4 (index := 60) hC hM hKu.kx mb_128 dX3_findHeld_58 ?_
    rw [show ((fo_s x aH (vw_ob aO h) (fh_2 x aO aH n rt h) i).2).2.1 x 4 = nI n from hOu.2.1]
    refine lv_icmp_ge (tgt := 92) hx hb dX3_findHeld_61 (by decide) (fun c61 => ?_) (fun c61 => ?_)
    · exact absurd c61 (nI_ge (by omega) (by have := hO.1; omega))
    · refine lv_aload_n hx hb dX3_findHeld_64 rfl (lv_at hl 0 rfl) ?_
      refine gr_0_1 (index := 18) hC hM hKu.kx mb_125 dX3_findHeld_65 hKu.xO ?_
      refine lv_iload_n hx hb dX3_findHeld_68 rfl (lv_at hl 1 rfl) ?_
      refine al_4 (i := i) hC hM hKu.kO (rfl) (by have := hO.1; omega) (by first | decide | omega) ((ru i).trans (hO.ob (by omega)).1) dX3_findHeld_69 ?_
      refine gi_2_2 (index := 71) hC hM kb mb_100 dX3_findHeld_70 ?_
      refine lv_if_eq (tgt := 86) hx hb dX3_findHeld_73 (by decide) (fun c73 => ?_) (fun c73 => ?_)
      · refine lv_iinc (v := nI (i + 1)) (lv' := [(1, .int (nI (i + 1))), (0, .ref x)]) hx hb dX3_findHeld_86 hl (k := 1) rfl (by exact nI_1 i) (by first | decide | omega) rfl (fun ls hl => ?_)
        refine lv_goto (tgt := 56) hx hb dX3_findHeld_89 (by decide) ?_
        exact ih (i + 1) H locs ls (by omega) (by
          show th_H D cs h s (fo_s x aH (vw_ob aO h) (fh_2 x aO aH n rt h) (i + 1)).2 H locs
          unfold fo_s
          first | (rw [if_pos c73]; exact hM) | (rw [if_neg c73]; exact hM)) (lv_sub hl [1, 0] rfl)
      · refine lv_aload_n hx hb dX3_findHeld_76 rfl (lv_at hl 0 rfl) ?_
        refine lv_aload_n hx hb dX3_findHeld_77 rfl (lv_at hl 0 rfl) ?_
        refine gr_0_1 (index := 18) hC hM hKu.kx mb_125 dX3_findHeld_78 hKu.xO ?_
        refine lv_iload_n hx hb dX3_findHeld_81 rfl (lv_at hl 1 rfl) ?_
        refine al_4 (i := i) hC hM hKu.kO (rfl) (by have := hO.1; omega) (by first | decide | omega) ((ru i).trans (hO.ob (by omega)).1) dX3_findHeld_82 ?_
        refine mw_callV (As := [.ref (vw_ob aO h i)]) (rest := []) (n := 1) (C := RX3) (T := TX3) (N := 11) (ci := 3) hC hM (c_X3_hold l hl0 D cs ((fo_s x aH (vw_ob aO h) (fh_2 x aO aH n rt h) i).2) H.size x aR aO aH aT rt ta hKu (fo_s x aH (vw_ob aO h) (fh_2 x aO aH n rt h) i).1 hCu (some (vw_ob aO h i)) (fun b hb => by cases hb; exact kb)) (cwV 1 hC.1.2.2.2.2 (tb_V mb_198 mb_199 mb_4 mb_36 mb_200) rfl rfl rfl (by decide +kernel) ⟨Nat.le_of_ble_eq_true rfl, Nat.le_of_ble_eq_true rfl⟩) (th_at (h := (fo_s x aH (vw_ob aO h) (fh_2 x aO aH n rt h) i).2) hKu.kx) rfl rfl rfl hl.1 (Nat.le_of_ble_eq_true rfl) dX3_findHeld_83 ⟨Nat.le_of_ble_eq_true rfl, Nat.le_of_ble_eq_true rfl⟩ (fun E ce q9 g9 H locs hp9 hM hce hcv hcl => ?_) (fun v9 g9 H locs hp9 hM => ?_)
        · exact (hp9.elim fun _ h9 => h9.2.elim)
        obtain ⟨h83, rfl, hp9⟩ := hp9
        obtain ⟨rfl, rfl⟩ := hp9
        refine W.eq (g2 := F0 m 86 ls []) rfl ?_
        refine lv_iinc (v := nI (i + 1)) (lv' := [(1, .int (nI (i + 1))), (0, .ref x)]) hx hb dX3_findHeld_86 hl (k := 1) rfl (by exact nI_1 i) (by first | decide | omega) rfl (fun ls hl => ?_)
        refine lv_goto (tgt := 56) hx hb dX3_findHeld_89 (by decide) ?_
        exact ih (i + 1) H locs ls (by omega) (by
          show th_H D cs h s (fo_s x aH (vw_ob aO h) (fh_2 x aO aH n rt h) (i + 1)).2 H locs
          unfold fo_s
          first | (rw [if_pos c73]; exact hM) | (rw [if_neg c73]; exact hM)) (lv_sub hl [1, 0] rfl)

-- the loop at 33 of StableHeap.findHeld
set_option maxHeartbeats 4000000 in
set_option maxRecDepth 100000 in
theorem lo_X3_findHeld_33 {l : Launch} (hl0 : l.stackTraces = false) {D : va_G} {cs : Nat → ClassId} {h : th_S} (x aR aO aH aT : Nat) (rt ta : Nat → Nat) (hK : sh_K x aR aO aH aT rt ta h) (n : Nat) (hO : sh_O x aO n h) {p : Program} {e : Env} {s : State} {m : MethodId} {below : List Frame} {meth : Method} {c : Code} (hC : th_C D cs h p m c cX3_findHeld 2 s [.ref x] RX3) (hr : meth.sig.returnType = none) (hlk : meth.locks = false) (htab : ∀ x ∈ c.exceptionTable.toList, False) : ∀ (q : Nat) (i : Nat) (H : Heap) (locs : List Loc) (ls : Array Slot), (i + q = 4) → th_H D cs h s ((fr_s x aH rt (fh_1 x aO n h) i).2) H locs → lv_has ls 2 [(0, .ref x), (1, .int (nI i))] → W p l e { frames := 2, cells := 0, slots := 0, locals := 43 } s m [.ref x].toArray below meth c H locs 0 0 (th_Q below D cs h s [.ref x] (fun v h' => v = none ∧ h' = (sh_fh x aO aH n rt h).2) (fun E h' => False) 0 0) (F0 m 33 ls []) := by
  have hx := hC.1.1
  have hb := hC.1.2.1
  intro q
  induction q with
  | zero =>
    intro i H locs ls hin hM hl
    obtain ⟨hKu, hCu, hOu, hWu⟩ := fh_2_I hK hO (show i ≤ 4 by omega)
    have ku : (fr_s x aH rt (fh_1 x aO n h) i).2.1 = h.1 := fh_2_k n i
    refine lv_iload_n hx hb dX3_findHeld_33 rfl (lv_at hl 1 rfl) ?_
    refine lv_iconst (v := 4) hx hb dX3_findHeld_34 (by decide) ?_
    refine lv_icmp_ge (tgt := 54) hx hb dX3_findHeld_35 (by decide) (fun c35 => ?_) (fun c35 => ?_)
    · refine lv_iconst (v := 0) hx hb dX3_findHeld_54 (by decide) ?_
      refine lv_istore_n (lv' := [(1, .int 0), (0, .ref x)]) hx hb dX3_findHeld_55 rfl hl (by decide) rfl (fun ls hl => ?_)
      exact lo_X3_findHeld_56 hl0 x aR aO aH aT rt ta hK n hO hC hr hlk htab n 0 _ _ ls (by omega) (by rw [show i = 4 by omega] at hM; exact hM) (lv_sub hl [1, 0] rfl)
    · exact absurd (nI_le (a := 4) (show 4 ≤ i by omega) (by omega)) c35
  | succ q ih =>
    intro i H locs ls hin hM hl
    obtain ⟨hKu, hCu, hOu, hWu⟩ := fh_2_I hK hO (show i ≤ 4 by omega)
    have ku : (fr_s x aH rt (fh_1 x aO n h) i).2.1 = h.1 := fh_2_k n i
    refine lv_iload_n hx hb dX3_findHeld_33 rfl (lv_at hl 1 rfl) ?_
    refine lv_iconst (v := 4) hx hb dX3_findHeld_34 (by decide) ?_
    refine lv_icmp_ge (tgt := 54) hx hb dX3_findHeld_35 (by decide) (fun c35 => ?_) (fun c35 => ?_)
    · exact absurd c35 (nI_ge (b := 4) (by omega) (by decide))
    · refine lv_aload_n hx hb dX3_findHeld_38 rfl (lv_at hl 0 rfl) ?_
      refine lv_aload_n hx hb dX3_findHeld_39 rfl (lv_at hl 0 rfl) ?_
      refine gr_0_0 (index := 11) hC hM hKu.kx mb_124 dX3_findHeld_40 hKu.xR ?_
      refine lv_iload_n hx hb dX3_findHeld_43 rfl (lv_at hl 1 rfl) ?_
      refine al_4 (i := i) hC hM hKu.kR (rfl) (by omega) (by first | decide | omega) (hKu.rr (by omega)) dX3_findHeld_44 ?_
      refine mw_callV (As := [.ref (rt i)]) (rest := []) (n := 1) (C := RX3) (T := TX3) (N := 11) (ci := 3) hC hM (c_X3_holdTargets l hl0 D cs ((fr_s x aH rt (fh_1 x aO n h) i).2) H.size x aR aO aH aT rt ta hKu n hOu (fr_s x aH rt (fh_1 x aO n h) i).1 hCu (rt i) (hKu.krt (by omega))) (cwV 1 hC.1.2.2.2.2 (tb_V mb_195 mb_196 mb_3 mb_36 mb_197) rfl rfl rfl (by decide +kernel) ⟨Nat.le_of_ble_eq_true rfl, Nat.le_of_ble_eq_true rfl⟩) (th_at (h := (fr_s x aH rt (fh_1 x aO n h) i).2) hKu.kx) rfl rfl rfl hl.1 (Nat.le_of_ble_eq_true rfl) dX3_findHeld_45 ⟨Nat.le_of_ble_eq_true rfl, Nat.le_of_ble_eq_true rfl⟩ (fun E ce q9 g9 H locs hp9 hM hce hcv hcl => ?_) (fun v9 g9 H locs hp9 hM => ?_)
      · exact (hp9.elim fun _ h9 => h9.2.elim)
      obtain ⟨h45, rfl, hp9⟩ := hp9
      obtain ⟨rfl, rfl⟩ := hp9
      refine W.eq (g2 := F0 m 48 ls []) rfl ?_
      refine lv_iinc (v := nI (i + 1)) (lv' := [(1, .int (nI (i + 1))), (0, .ref x)]) hx hb dX3_findHeld_48 hl (k := 1) rfl (by exact nI_1 i) (by first | decide | omega) rfl (fun ls hl => ?_)
      refine lv_goto (tgt := 33) hx hb dX3_findHeld_51 (by decide) ?_
      exact ih (i + 1) H locs ls (by omega) hM (lv_sub hl [1, 0] rfl)

-- the loop at 7 of StableHeap.findHeld
set_option maxHeartbeats 4000000 in
set_option maxRecDepth 100000 in
theorem lo_X3_findHeld_7 {l : Launch} (hl0 : l.stackTraces = false) {D : va_G} {cs : Nat → ClassId} {h : th_S} (x aR aO aH aT : Nat) (rt ta : Nat → Nat) (hK : sh_K x aR aO aH aT rt ta h) (n : Nat) (hO : sh_O x aO n h) {p : Program} {e : Env} {s : State} {m : MethodId} {below : List Frame} {meth : Method} {c : Code} (hC : th_C D cs h p m c cX3_findHeld 2 s [.ref x] RX3) (hr : meth.sig.returnType = none) (hlk : meth.locks = false) (htab : ∀ x ∈ c.exceptionTable.toList, False) : ∀ (q : Nat) (i : Nat) (H : Heap) (locs : List Loc) (ls : Array Slot), (i + q = n) → th_H D cs h s (fc_h (vw_ob aO h) (th_ui h x 5 0) i) H locs → lv_has ls 2 [(0, .ref x), (1, .int (nI i))] → W p l e { frames := 2, cells := 0, slots := 0, locals := 43 } s m [.ref x].toArray below meth c H locs 0 0 (th_Q below D cs h s [.ref x] (fun v h' => v = none ∧ h' = (sh_fh x aO aH n rt h).2) (fun E h' => False) 0 0) (F0 m 7 ls []) := by
  have hx := hC.1.1
  have hb := hC.1.2.1
  intro q
  induction q with
  | zero =>
    intro i H locs ls hin hM hl
    obtain ⟨hKu, hCu, hOu, hWu⟩ := fh_1_I hK hO (show i ≤ n by omega)
    have ru : (fc_h (vw_ob aO h) (th_ui h x 5 0) i).2.2 = h.2.2 := fc_h_r _ i
    have ku : (fc_h (vw_ob aO h) (th_ui h x 5 0) i).1 = h.1 := fc_h_k _ i
    refine lv_iload_n hx hb dX3_findHeld_7 rfl (lv_at hl 1 rfl) ?_
    refine lv_aload_n hx hb dX3_findHeld_8 rfl (lv_at hl 0 rfl) ?_
    refine gi_0_4 (index := 60) hC hM hKu.kx mb_128 dX3_findHeld_9 ?_
    rw [show (fc_h (vw_ob aO h) (th_ui h x 5 0) i).2.1 x 4 = nI n from hOu.2.1]
    refine lv_icmp_ge (tgt := 31) hx hb dX3_findHeld_12 (by decide) (fun c12 => ?_) (fun c12 => ?_)
    · refine lv_iconst (v := 0) hx hb dX3_findHeld_31 (by decide) ?_
      refine lv_istore_n (lv' := [(1, .int 0), (0, .ref x)]) hx hb dX3_findHeld_32 rfl hl (by decide) rfl (fun ls hl => ?_)
      exact lo_X3_findHeld_33 hl0 x aR aO aH aT rt ta hK n hO hC hr hlk htab 4 0 _ _ ls (by omega) (by rw [show i = n by omega] at hM; exact hM) (lv_sub hl [1, 0] rfl)
    · exact absurd (nI_le (show n ≤ i by omega) (by have := hO.1; omega)) c12
  | succ q ih =>
    intro i H locs ls hin hM hl
    obtain ⟨hKu, hCu, hOu, hWu⟩ := fh_1_I hK hO (show i ≤ n by omega)
    have ru : (fc_h (vw_ob aO h) (th_ui h x 5 0) i).2.2 = h.2.2 := fc_h_r _ i
    have ku : (fc_h (vw_ob aO h) (th_ui h x 5 0) i).1 = h.1 := fc_h_k _ i
    have rb : (fc_h (vw_ob aO h) (th_ui h x 5 0) i).2.2 aO i = some (vw_ob aO h i) := by rw [ru]; exact (hO.ob (show i < n by omega)).1
    have kb : (fc_h (vw_ob aO h) (th_ui h x 5 0) i).1 (vw_ob aO h i) = some (2, 0) := by rw [ku]; exact (hO.ob (show i < n by omega)).2
    refine lv_iload_n hx hb dX3_findHeld_7 rfl (lv_at hl 1 rfl) ?_
    refine lv_aload_n hx hb dX3_findHeld_8 rfl (lv_at hl 0 rfl) ?_
    refine gi_0_4 (index := 60) hC hM hKu.kx mb_128 dX3_findHeld_9 ?_
    rw [show (fc_h (vw_ob aO h) (th_ui h x 5 0) i).2.1 x 4 = nI n from hOu.2.1]
    refine lv_icmp_ge (tgt := 31) hx hb dX3_findHeld_12 (by decide) (fun c12 => ?_) (fun c12 => ?_)
    · exact absurd c12 (nI_ge (by omega) (by have := hO.1; omega))
    · refine lv_aload_n hx hb dX3_findHeld_15 rfl (lv_at hl 0 rfl) ?_
      refine gr_0_1 (index := 18) hC hM hKu.kx mb_125 dX3_findHeld_16 hKu.xO ?_
      refine lv_iload_n hx hb dX3_findHeld_19 rfl (lv_at hl 1 rfl) ?_
      refine al_4 (i := i) hC hM hKu.kO (rfl) (by have := hO.1; omega) (by first | decide | omega) rb dX3_findHeld_20 ?_
      refine lv_iconst (v := 0) hx hb dX3_findHeld_21 (by decide) ?_
      refine pu_2_3 (index := 209) (v := 0) hC hM kb mb_101 (by first | exact Or.inl rfl | exact Or.inr rfl) dX3_findHeld_22 (fun H locs hM => ?_)
      refine lv_iinc (v := nI (i + 1)) (lv' := [(1, .int (nI (i + 1))), (0, .ref x)]) hx hb dX3_findHeld_25 hl (k := 1) rfl (by exact nI_1 i) (by first | decide | omega) rfl (fun ls hl => ?_)
      refine lv_goto (tgt := 7) hx hb dX3_findHeld_28 (by decide) ?_
      exact ih (i + 1) H locs ls (by omega) hM (lv_sub hl [1, 0] rfl)

-- StableHeap.findHeld
set_option maxHeartbeats 4000000 in
set_option maxRecDepth 100000 in
theorem c_X3_findHeld (l : Launch) (hl0 : l.stackTraces = false) (D : va_G) (cs : Nat → ClassId) (h : th_S) (sz : Nat) (x aR aO aH aT : Nat) (rt ta : Nat → Nat) (hK : sh_K x aR aO aH aT rt ta h) (n : Nat) (hO : sh_O x aO n h) : th_M l yX3_findHeld wsX3_findHeld { frames := 2, cells := 0, slots := 0, locals := 43 } D cs h sz [.ref x] (fun v h' => v = none ∧ h' = (sh_fh x aO aH n rt h).2) (fun E h' => False) := by
  refine mw_ofW (cc := cX3_findHeld) (maxL := 2) (ret := none) (by decide) rfl (fun w h => List.mem_cons_of_mem _ h) th_cd (Nat.le_of_ble_eq_true rfl) ?_
  intro p e s m below meth c hsz hC hr hlk hnm htab hM ls hl
  have hC : th_C D cs h p m c cX3_findHeld 2 s [.ref x] RX3 := hC
  have hx := hC.1.1
  have hb := hC.1.2.1
  have kx0 : h.1 x = some (0, 0) := hK.kx
  have hl : lv_has ls 2 [(0, .ref x)] := hl
  refine lv_aload_n hx hb dX3_findHeld_0 rfl (lv_at hl 0 rfl) ?_
  refine lv_iconst (v := 0) hx hb dX3_findHeld_1 (by decide) ?_
  refine pu_0_5 (index := 150) (v := 0) hC hM kx0 mb_129 dX3_findHeld_2 (fun H locs hM => ?_)
  refine lv_iconst (v := 0) hx hb dX3_findHeld_5 (by decide) ?_
  refine lv_istore_n (lv' := [(1, .int 0), (0, .ref x)]) hx hb dX3_findHeld_6 rfl hl (by decide) rfl (fun ls hl => ?_)
  exact lo_X3_findHeld_7 hl0 x aR aO aH aT rt ta hK n hO hC hr hlk htab n 0 _ _ ls (by omega) hM (lv_sub hl [1, 0] rfl)
end
