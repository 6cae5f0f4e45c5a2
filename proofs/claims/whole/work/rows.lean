section
-- ===== PART A: goes FIRST, ahead of the names: the tables' words, and 'selects' of the private methods out of them =====
/-- a private method of a class that the tables say can be made, by its rows of tables_1 -/
def lw_okq (q : MethodName × Nat) : Prop := (q.1.cls ≠ "java/lang/invoke/MethodHandle" ∧ q.1.cls ≠ "java/lang/invoke/VarHandle") ∧ Cond.instantiable q.1.cls q.2 ∈ tables_1 ∧ Cond.privateMethod q.1 ∈ tables_1 ∧ Cond.instanceMethod q.1 ∈ tables_1
theorem lw_p0 : lw_okq (⟨"java/lang/Throwable", "fillInStackTrace", "(I)Ljava/lang/Throwable;"⟩, 6) := ⟨⟨by decide +kernel, by decide +kernel⟩, List.mem_of_getElem? (i := 237) (by decide +kernel), List.mem_of_getElem? (i := 235) (by decide +kernel), List.mem_of_getElem? (i := 236) (by decide +kernel)⟩
theorem lw_p1 : lw_okq (⟨"PageRows$Entries", "find", "(II)I"⟩, 3) := ⟨⟨by decide +kernel, by decide +kernel⟩, List.mem_of_getElem? (i := 79) (by decide +kernel), List.mem_of_getElem? (i := 326) (by decide +kernel), List.mem_of_getElem? (i := 327) (by decide +kernel)⟩
theorem lw_p2 : lw_okq (⟨"PageRows$Entry", "standsFor", "(II)Z"⟩, 6) := ⟨⟨by decide +kernel, by decide +kernel⟩, List.mem_of_getElem? (i := 86) (by decide +kernel), List.mem_of_getElem? (i := 330) (by decide +kernel), List.mem_of_getElem? (i := 331) (by decide +kernel)⟩
theorem lw_p3 : lw_okq (⟨"PageRows", "translateByTables", "(II)I"⟩, 12) := ⟨⟨by decide +kernel, by decide +kernel⟩, List.mem_of_getElem? (i := 13) (by decide +kernel), List.mem_of_getElem? (i := 346) (by decide +kernel), List.mem_of_getElem? (i := 347) (by decide +kernel)⟩
theorem lw_p4 : lw_okq (⟨"PageRows$Path", "follow", "(III)I"⟩, 8) := ⟨⟨by decide +kernel, by decide +kernel⟩, List.mem_of_getElem? (i := 43) (by decide +kernel), List.mem_of_getElem? (i := 350) (by decide +kernel), List.mem_of_getElem? (i := 351) (by decide +kernel)⟩
theorem lw_p5 : lw_okq (⟨"PageRows$Path", "isOutside", "(I)Z"⟩, 8) := ⟨⟨by decide +kernel, by decide +kernel⟩, List.mem_of_getElem? (i := 43) (by decide +kernel), List.mem_of_getElem? (i := 354) (by decide +kernel), List.mem_of_getElem? (i := 355) (by decide +kernel)⟩
theorem lw_p6 : lw_okq (⟨"PageRows$Path", "stop", "(II)I"⟩, 8) := ⟨⟨by decide +kernel, by decide +kernel⟩, List.mem_of_getElem? (i := 43) (by decide +kernel), List.mem_of_getElem? (i := 359) (by decide +kernel), List.mem_of_getElem? (i := 360) (by decide +kernel)⟩
theorem lw_p7 : lw_okq (⟨"PageRows$Path", "read", "(II)I"⟩, 8) := ⟨⟨by decide +kernel, by decide +kernel⟩, List.mem_of_getElem? (i := 43) (by decide +kernel), List.mem_of_getElem? (i := 363) (by decide +kernel), List.mem_of_getElem? (i := 364) (by decide +kernel)⟩
theorem lw_p8 : lw_okq (⟨"PageRows$Memory", "homeOf", "(I)I"⟩, 3) := ⟨⟨by decide +kernel, by decide +kernel⟩, List.mem_of_getElem? (i := 21) (by decide +kernel), List.mem_of_getElem? (i := 367) (by decide +kernel), List.mem_of_getElem? (i := 368) (by decide +kernel)⟩
theorem lw_p9 : lw_okq (⟨"PageRows$Path", "leafFault", "(I)I"⟩, 8) := ⟨⟨by decide +kernel, by decide +kernel⟩, List.mem_of_getElem? (i := 43) (by decide +kernel), List.mem_of_getElem? (i := 376) (by decide +kernel), List.mem_of_getElem? (i := 377) (by decide +kernel)⟩
theorem lw_p10 : lw_okq (⟨"PageRows$Memory", "reach", "(III)I"⟩, 3) := ⟨⟨by decide +kernel, by decide +kernel⟩, List.mem_of_getElem? (i := 21) (by decide +kernel), List.mem_of_getElem? (i := 384) (by decide +kernel), List.mem_of_getElem? (i := 385) (by decide +kernel)⟩
theorem lw_p11 : lw_okq (⟨"PageRows$Path", "mark", "(Z)V"⟩, 8) := ⟨⟨by decide +kernel, by decide +kernel⟩, List.mem_of_getElem? (i := 43) (by decide +kernel), List.mem_of_getElem? (i := 390) (by decide +kernel), List.mem_of_getElem? (i := 391) (by decide +kernel)⟩
theorem lw_p12 : lw_okq (⟨"PageRows$Entries", "keep", "(IILPageRows$Path;)V"⟩, 3) := ⟨⟨by decide +kernel, by decide +kernel⟩, List.mem_of_getElem? (i := 79) (by decide +kernel), List.mem_of_getElem? (i := 396) (by decide +kernel), List.mem_of_getElem? (i := 397) (by decide +kernel)⟩
theorem lw_p13 : lw_okq (⟨"PageRows$Entries", "rowFor", "(III)I"⟩, 3) := ⟨⟨by decide +kernel, by decide +kernel⟩, List.mem_of_getElem? (i := 79) (by decide +kernel), List.mem_of_getElem? (i := 400) (by decide +kernel), List.mem_of_getElem? (i := 401) (by decide +kernel)⟩
theorem lw_p14 : lw_okq (⟨"PageRows$Entries", "use", "(I)V"⟩, 3) := ⟨⟨by decide +kernel, by decide +kernel⟩, List.mem_of_getElem? (i := 79) (by decide +kernel), List.mem_of_getElem? (i := 408) (by decide +kernel), List.mem_of_getElem? (i := 409) (by decide +kernel)⟩
theorem lw_p15 : lw_okq (⟨"PageRows", "finish", "(III)I"⟩, 12) := ⟨⟨by decide +kernel, by decide +kernel⟩, List.mem_of_getElem? (i := 13) (by decide +kernel), List.mem_of_getElem? (i := 412) (by decide +kernel), List.mem_of_getElem? (i := 413) (by decide +kernel)⟩
def lw_privs_1 : List (MethodName × Nat) := [(⟨"java/lang/Throwable", "fillInStackTrace", "(I)Ljava/lang/Throwable;"⟩, 6), (⟨"PageRows$Entries", "find", "(II)I"⟩, 3), (⟨"PageRows$Entry", "standsFor", "(II)Z"⟩, 6), (⟨"PageRows", "translateByTables", "(II)I"⟩, 12), (⟨"PageRows$Path", "follow", "(III)I"⟩, 8), (⟨"PageRows$Path", "isOutside", "(I)Z"⟩, 8), (⟨"PageRows$Path", "stop", "(II)I"⟩, 8), (⟨"PageRows$Path", "read", "(II)I"⟩, 8), (⟨"PageRows$Memory", "homeOf", "(I)I"⟩, 3), (⟨"PageRows$Path", "leafFault", "(I)I"⟩, 8), (⟨"PageRows$Memory", "reach", "(III)I"⟩, 3), (⟨"PageRows$Path", "mark", "(Z)V"⟩, 8), (⟨"PageRows$Entries", "keep", "(IILPageRows$Path;)V"⟩, 3), (⟨"PageRows$Entries", "rowFor", "(III)I"⟩, 3), (⟨"PageRows$Entries", "use", "(I)V"⟩, 3), (⟨"PageRows", "finish", "(III)I"⟩, 12)]
theorem lw_r1 : ∀ q ∈ lw_privs_1, lw_okq q := List.forall_mem_cons.mpr ⟨lw_p0, List.forall_mem_cons.mpr ⟨lw_p1, List.forall_mem_cons.mpr ⟨lw_p2, List.forall_mem_cons.mpr ⟨lw_p3, List.forall_mem_cons.mpr ⟨lw_p4, List.forall_mem_cons.mpr ⟨lw_p5, List.forall_mem_cons.mpr ⟨lw_p6, List.forall_mem_cons.mpr ⟨lw_p7, List.forall_mem_cons.mpr ⟨lw_p8, List.forall_mem_cons.mpr ⟨lw_p9, List.forall_mem_cons.mpr ⟨lw_p10, List.forall_mem_cons.mpr ⟨lw_p11, List.forall_mem_cons.mpr ⟨lw_p12, List.forall_mem_cons.mpr ⟨lw_p13, List.forall_mem_cons.mpr ⟨lw_p14, List.forall_mem_cons.mpr ⟨lw_p15, fun _ h => absurd h List.not_mem_nil⟩⟩⟩⟩⟩⟩⟩⟩⟩⟩⟩⟩⟩⟩⟩⟩
theorem lw_p16 : lw_okq (⟨"PageRows", "translateByEntry", "(III)I"⟩, 12) := ⟨⟨by decide +kernel, by decide +kernel⟩, List.mem_of_getElem? (i := 13) (by decide +kernel), List.mem_of_getElem? (i := 416) (by decide +kernel), List.mem_of_getElem? (i := 417) (by decide +kernel)⟩
theorem lw_p17 : lw_okq (⟨"PageRows$Entries", "forget", "(III)I"⟩, 3) := ⟨⟨by decide +kernel, by decide +kernel⟩, List.mem_of_getElem? (i := 79) (by decide +kernel), List.mem_of_getElem? (i := 437) (by decide +kernel), List.mem_of_getElem? (i := 438) (by decide +kernel)⟩
theorem lw_p18 : lw_okq (⟨"PageRows$Entry", "part", "(I)I"⟩, 6) := ⟨⟨by decide +kernel, by decide +kernel⟩, List.mem_of_getElem? (i := 86) (by decide +kernel), List.mem_of_getElem? (i := 453) (by decide +kernel), List.mem_of_getElem? (i := 454) (by decide +kernel)⟩
theorem lw_p19 : lw_okq (⟨"PageRows", "isStale", "(LPageRows$Entry;I)Z"⟩, 12) := ⟨⟨by decide +kernel, by decide +kernel⟩, List.mem_of_getElem? (i := 13) (by decide +kernel), List.mem_of_getElem? (i := 464) (by decide +kernel), List.mem_of_getElem? (i := 465) (by decide +kernel)⟩
theorem lw_p20 : lw_okq (⟨"PageRowsModel", "throwing", "(ZZ)Z"⟩, 30) := ⟨⟨by decide +kernel, by decide +kernel⟩, List.mem_of_getElem? (i := 469) (by decide +kernel), List.mem_of_getElem? (i := 578) (by decide +kernel), List.mem_of_getElem? (i := 579) (by decide +kernel)⟩
theorem lw_p21 : lw_okq (⟨"PageRowsModel", "isOutside", "(I)Z"⟩, 30) := ⟨⟨by decide +kernel, by decide +kernel⟩, List.mem_of_getElem? (i := 469) (by decide +kernel), List.mem_of_getElem? (i := 607) (by decide +kernel), List.mem_of_getElem? (i := 608) (by decide +kernel)⟩
theorem lw_p22 : lw_okq (⟨"PageRowsModel", "entryFor", "(I)I"⟩, 30) := ⟨⟨by decide +kernel, by decide +kernel⟩, List.mem_of_getElem? (i := 469) (by decide +kernel), List.mem_of_getElem? (i := 611) (by decide +kernel), List.mem_of_getElem? (i := 612) (by decide +kernel)⟩
theorem lw_p23 : lw_okq (⟨"PageRowsModel", "fits", "(II)Z"⟩, 30) := ⟨⟨by decide +kernel, by decide +kernel⟩, List.mem_of_getElem? (i := 469) (by decide +kernel), List.mem_of_getElem? (i := 615) (by decide +kernel), List.mem_of_getElem? (i := 616) (by decide +kernel)⟩
theorem lw_p24 : lw_okq (⟨"PageRowsModel", "byEntry", "(III)Z"⟩, 30) := ⟨⟨by decide +kernel, by decide +kernel⟩, List.mem_of_getElem? (i := 469) (by decide +kernel), List.mem_of_getElem? (i := 622) (by decide +kernel), List.mem_of_getElem? (i := 623) (by decide +kernel)⟩
theorem lw_p25 : lw_okq (⟨"PageRowsModel", "use", "(I)V"⟩, 30) := ⟨⟨by decide +kernel, by decide +kernel⟩, List.mem_of_getElem? (i := 469) (by decide +kernel), List.mem_of_getElem? (i := 626) (by decide +kernel), List.mem_of_getElem? (i := 627) (by decide +kernel)⟩
theorem lw_p26 : lw_okq (⟨"PageRowsModel", "fails", "(II)Z"⟩, 30) := ⟨⟨by decide +kernel, by decide +kernel⟩, List.mem_of_getElem? (i := 469) (by decide +kernel), List.mem_of_getElem? (i := 630) (by decide +kernel), List.mem_of_getElem? (i := 631) (by decide +kernel)⟩
theorem lw_p27 : lw_okq (⟨"PageRowsModel", "ends", "(III)Z"⟩, 30) := ⟨⟨by decide +kernel, by decide +kernel⟩, List.mem_of_getElem? (i := 469) (by decide +kernel), List.mem_of_getElem? (i := 634) (by decide +kernel), List.mem_of_getElem? (i := 635) (by decide +kernel)⟩
theorem lw_p28 : lw_okq (⟨"PageRowsModel", "mapped", "(I)I"⟩, 30) := ⟨⟨by decide +kernel, by decide +kernel⟩, List.mem_of_getElem? (i := 469) (by decide +kernel), List.mem_of_getElem? (i := 641) (by decide +kernel), List.mem_of_getElem? (i := 642) (by decide +kernel)⟩
theorem lw_p29 : lw_okq (⟨"PageRowsModel", "told", "(Z)I"⟩, 30) := ⟨⟨by decide +kernel, by decide +kernel⟩, List.mem_of_getElem? (i := 469) (by decide +kernel), List.mem_of_getElem? (i := 645) (by decide +kernel), List.mem_of_getElem? (i := 646) (by decide +kernel)⟩
theorem lw_p30 : lw_okq (⟨"PageRowsModel", "walks", "(II)Z"⟩, 30) := ⟨⟨by decide +kernel, by decide +kernel⟩, List.mem_of_getElem? (i := 469) (by decide +kernel), List.mem_of_getElem? (i := 649) (by decide +kernel), List.mem_of_getElem? (i := 650) (by decide +kernel)⟩
theorem lw_p31 : lw_okq (⟨"PageRowsModel", "goes", "(IIII)Z"⟩, 30) := ⟨⟨by decide +kernel, by decide +kernel⟩, List.mem_of_getElem? (i := 469) (by decide +kernel), List.mem_of_getElem? (i := 653) (by decide +kernel), List.mem_of_getElem? (i := 654) (by decide +kernel)⟩
def lw_privs_2 : List (MethodName × Nat) := [(⟨"PageRows", "translateByEntry", "(III)I"⟩, 12), (⟨"PageRows$Entries", "forget", "(III)I"⟩, 3), (⟨"PageRows$Entry", "part", "(I)I"⟩, 6), (⟨"PageRows", "isStale", "(LPageRows$Entry;I)Z"⟩, 12), (⟨"PageRowsModel", "throwing", "(ZZ)Z"⟩, 30), (⟨"PageRowsModel", "isOutside", "(I)Z"⟩, 30), (⟨"PageRowsModel", "entryFor", "(I)I"⟩, 30), (⟨"PageRowsModel", "fits", "(II)Z"⟩, 30), (⟨"PageRowsModel", "byEntry", "(III)Z"⟩, 30), (⟨"PageRowsModel", "use", "(I)V"⟩, 30), (⟨"PageRowsModel", "fails", "(II)Z"⟩, 30), (⟨"PageRowsModel", "ends", "(III)Z"⟩, 30), (⟨"PageRowsModel", "mapped", "(I)I"⟩, 30), (⟨"PageRowsModel", "told", "(Z)I"⟩, 30), (⟨"PageRowsModel", "walks", "(II)Z"⟩, 30), (⟨"PageRowsModel", "goes", "(IIII)Z"⟩, 30)]
theorem lw_r2 : ∀ q ∈ lw_privs_2, lw_okq q := List.forall_mem_cons.mpr ⟨lw_p16, List.forall_mem_cons.mpr ⟨lw_p17, List.forall_mem_cons.mpr ⟨lw_p18, List.forall_mem_cons.mpr ⟨lw_p19, List.forall_mem_cons.mpr ⟨lw_p20, List.forall_mem_cons.mpr ⟨lw_p21, List.forall_mem_cons.mpr ⟨lw_p22, List.forall_mem_cons.mpr ⟨lw_p23, List.forall_mem_cons.mpr ⟨lw_p24, List.forall_mem_cons.mpr ⟨lw_p25, List.forall_mem_cons.mpr ⟨lw_p26, List.forall_mem_cons.mpr ⟨lw_p27, List.forall_mem_cons.mpr ⟨lw_p28, List.forall_mem_cons.mpr ⟨lw_p29, List.forall_mem_cons.mpr ⟨lw_p30, List.forall_mem_cons.mpr ⟨lw_p31, fun _ h => absurd h List.not_mem_nil⟩⟩⟩⟩⟩⟩⟩⟩⟩⟩⟩⟩⟩⟩⟩⟩
theorem lw_p32 : lw_okq (⟨"PageRowsModel", "mark", "(I)V"⟩, 30) := ⟨⟨by decide +kernel, by decide +kernel⟩, List.mem_of_getElem? (i := 469) (by decide +kernel), List.mem_of_getElem? (i := 665) (by decide +kernel), List.mem_of_getElem? (i := 666) (by decide +kernel)⟩
theorem lw_p33 : lw_okq (⟨"PageRowsModel", "keep", "(I)V"⟩, 30) := ⟨⟨by decide +kernel, by decide +kernel⟩, List.mem_of_getElem? (i := 469) (by decide +kernel), List.mem_of_getElem? (i := 671) (by decide +kernel), List.mem_of_getElem? (i := 672) (by decide +kernel)⟩
theorem lw_p34 : lw_okq (⟨"PageRowsModel", "drop", "(I)V"⟩, 30) := ⟨⟨by decide +kernel, by decide +kernel⟩, List.mem_of_getElem? (i := 469) (by decide +kernel), List.mem_of_getElem? (i := 675) (by decide +kernel), List.mem_of_getElem? (i := 676) (by decide +kernel)⟩
theorem lw_p35 : lw_okq (⟨"PageRowsModel", "inOrder", "(I)I"⟩, 30) := ⟨⟨by decide +kernel, by decide +kernel⟩, List.mem_of_getElem? (i := 469) (by decide +kernel), List.mem_of_getElem? (i := 699) (by decide +kernel), List.mem_of_getElem? (i := 700) (by decide +kernel)⟩
theorem lw_p36 : lw_okq (⟨"PageRowsModel", "isStale", "(II)Z"⟩, 30) := ⟨⟨by decide +kernel, by decide +kernel⟩, List.mem_of_getElem? (i := 469) (by decide +kernel), List.mem_of_getElem? (i := 707) (by decide +kernel), List.mem_of_getElem? (i := 708) (by decide +kernel)⟩
def lw_privs_3 : List (MethodName × Nat) := [(⟨"PageRowsModel", "mark", "(I)V"⟩, 30), (⟨"PageRowsModel", "keep", "(I)V"⟩, 30), (⟨"PageRowsModel", "drop", "(I)V"⟩, 30), (⟨"PageRowsModel", "inOrder", "(I)I"⟩, 30), (⟨"PageRowsModel", "isStale", "(II)Z"⟩, 30)]
theorem lw_r3 : ∀ q ∈ lw_privs_3, lw_okq q := List.forall_mem_cons.mpr ⟨lw_p32, List.forall_mem_cons.mpr ⟨lw_p33, List.forall_mem_cons.mpr ⟨lw_p34, List.forall_mem_cons.mpr ⟨lw_p35, List.forall_mem_cons.mpr ⟨lw_p36, fun _ h => absurd h List.not_mem_nil⟩⟩⟩⟩⟩
def lw_privs : List (MethodName × Nat) := lw_privs_1 ++ (lw_privs_2 ++ (lw_privs_3))
def lw_tbl : List Cond := k2_sels lw_privs ++ tables_1
theorem lw_privs_ok : ∀ q ∈ lw_privs, lw_okq q := by
  show ∀ q ∈ lw_privs_1 ++ (lw_privs_2 ++ (lw_privs_3)), lw_okq q
  exact List.forall_mem_append.mpr ⟨lw_r1, List.forall_mem_append.mpr ⟨lw_r2, lw_r3⟩⟩

/-! ===== BEGIN exceptions that leave a method, and their catching by the caller (launches without stack traces) ===== -/
section VXA
/-! The laws vx_back, vx_callV, vx_callS, vx_callSW, vx_throw0, vx_throwS follow proofs of the library, with one case more: JvmDerived/Free/Laws.lean (Back.of_free), Shelf42/LK1.lean (callV, callS), Shelf/KitTraced.lean (throwNew0V, throwNewS). -/
/-- where a method has thrown q: the class by its name, the cell, what was written, the world -/
def vx_T (XC : String → State → State → Prop) (st : State) (q : Addr) (t : State) (mc ms : Nat) (free : Addr → Prop) : Prop :=
  ∃ (E : String) (ce : Cell) (L : List Loc), XC E st t ∧ t.heap[q]? = some ce ∧ ce.vm = .none ∧ st.vm.findClass E = some ce.cls ∧ st.WarmedH t.vm ∧ st.sameButNew ({ t with vm := st.vm } : State) L mc ms ∧ ∀ z ∈ L, free z.base
def vx_Q (Qc : Array Value → State → Outcome → State → Prop) (XC : String → State → State → Prop) (mc ms : Nat) (free : Addr → Prop) : Array Value → State → Outcome → State → Prop := fun a st o t =>
  (Qc a st o t ∧ ∃ L, FrameEnd st o t L mc ms ∧ ∀ q ∈ L, free q.base) ∨ ∃ q, o = .threw q ∧ vx_T XC st q t mc ms free
/-- a callee that returns or throws -/
def vx_Met (l : Launch) (y : MethodName) (ws : List Cond) (rm : Room) (Pc : Array Value → State → Prop) (Qc : Array Value → State → Outcome → State → Prop) (XC : String → State → State → Prop) (mc ms : Nat) (free : Addr → Prop) : Prop :=
  MetFree l y (headSpec ws rm) Pc (fun _ _ _ _ _ => True) (vx_Q Qc XC mc ms free)
def vx_Post (XC : String → State → State → Prop) (mc ms : Nat) (free : Addr → Prop) : Pt → Array Value → Addr → Pt → Prop := fun A a q B =>
  ∃ (g : JFrame) (mk : MethodId) (t : State) (L : List Loc) (E : String) (ce : Cell), B.U.heap = t.heap ∧ B.U.vm = t.vm ∧ XC E (A.U.calling g mk a) t ∧ t.heap[q]? = some ce ∧ ce.vm = .none ∧ A.U.vm.findClass E = some ce.cls ∧ B.locs = A.locs ++ L ∧ (∀ z ∈ L, free z.base) ∧ B.cells = A.cells + mc ∧ B.slots = A.slots + ms
def vx_Back (l : Launch) (R : Room) (p : Program) (e : Env) (below : List Frame) (s : State) (sargs : Array Value) (y : MethodName) (len W9 : Nat)
    (Pre : Pt → Array Value → Prop) (Post : Pt → Array Value → Option Value → Pt → Prop) (PostX : Pt → Array Value → Addr → Pt → Prop) : Prop :=
  ∀ (m : MethodId) (meth : Method) (c : Code) (A : Pt) (g : JFrame) (ig : Instr) (mk : MethodId) (a : Array Value),
    Stand p l e R s m sargs below meth c A.U A.locs A.cells A.slots → g.method = m → g.locals.size = c.maxLocals → decode c.code g.pc = .ok (ig, len) →
    2 * g.monitorRoom + (g.stack.map fun v => v.category).sum ≤ W9 → A.U.methodNamed? y = some mk → Pre A a →
    (∃ (v : Option Value) (B : Pt), Stand p l e R s m sargs below meth c B.U B.locs B.cells B.slots ∧ Post A a v B ∧
      Steps p.tables e below (doInvoke e (A.U.setTop g) [] mk a).1 (B.U.setTop { g with pc := g.pc + len, stack := v.toList ++ g.stack })) ∨
    (∃ (q : Addr) (B : Pt), Stand p l e R s m sargs below meth c B.U B.locs B.cells B.slots ∧ PostX A a q B ∧
      Steps p.tables e below (doInvoke e (A.U.setTop g) [] mk a).1 ((B.U.setTop g).pushFrame (.throwing q)))
section Payer
variable {l : Launch} {R : Room} {p : Program} {e : Env} {below : List Frame} {s : State} {sargs : Array Value} {y : MethodName} {len W9 : Nat}
theorem vx_back {ws : List Cond} {rm : Room} {Pc : Array Value → State → Prop} {Qc : Array Value → State → Outcome → State → Prop} {XC : String → State → State → Prop} {mc ms : Nat} {free : Addr → Prop} {bytes : ByteArray} {maxL : Nat} {ret : Option FieldType}
    (hM : vx_Met l y ws rm Pc Qc XC mc ms free) (hblind : FrameBlind Pc) (hrc : rm.cells = mc) (hrs : rm.slots = ms)
    (hframes : rm.frames + 1 ≤ R.frames) (hlocals : W9 + (maxL + 11) + rm.locals ≤ R.locals)
    (hws : ∀ w ∈ ws, ∀ a' U, s.WarmedH U.vm → w.before a' U = true) (hcode : Cond.code y bytes maxL ret ∈ ws) (hinit : ∀ a' U, s.WarmedH U.vm → (Cond.initialized y.cls).before a' U = true) :
    vx_Back l R p e below s sargs y len W9 (PreOf R mc ms Pc) (PostOf Qc mc ms free) (vx_Post XC mc ms free) := by
  intro m meth c A g ig mk a X hg hsize hdg hW hn hp
  have h1 : (headSpec ws rm).pre.before a A.U = true := atoms_intro fun w hw => hws w hw _ _ X.warmed
  have h2 : (Cond.code y bytes maxL ret).before a A.U = true := hws _ hcode _ _ X.warmed
  have h3 : (Cond.initialized y.cls).before a A.U = true := hinit _ _ X.warmed
  have h4 : A.cells + (headSpec ws rm).room.cells ≤ R.cells := by rw [show (headSpec ws rm).room.cells = mc from hrc]; exact hp.1
  have h5 : A.slots + (headSpec ws rm).room.slots ≤ R.slots := by rw [show (headSpec ws rm).room.slots = ms from hrs]; exact hp.2.1
  have hPc : Pc a (A.U.calling g mk a) := hblind _ _ _ _ hp.2.2
  obtain ⟨U, Ls, c0, s0⟩ := A
  dsimp only [Pt.U, Pt.locs, Pt.cells, Pt.slots] at h1 h2 h3 h4 h5 X hn hPc ⊢
  obtain ⟨methY, cY, hmY, hcY, -, hlY, -, -, -, -⟩ := Cond.code_spec hn h2
  obtain ⟨kY, hkY, -⟩ := className_of_methodNamed hn
  have hinitY : kY.init = .initialized := Cond.initialized_spec (findClass_of_methodNamed hn) hkY h3
  have h : At U g.method c below := by rw [hg]; exact X.here
  have hlocals9 : W9 + (maxL + 11) + (headSpec ws rm).room.locals ≤ R.locals := hlocals
  have happ : (headSpec ws rm).appliesLoose y e.platform (U.calling g mk a) = true :=
    Spec.appliesLoose_calling (g := g) h hdg hn hkY hinitY
      (X.room_calling (g := g) (R' := (headSpec ws rm).room) hsize hmY hcY hframes (by rw [hlY]; omega) h4 h5) h1
  obtain ⟨mid, hmid⟩ := h.above
  have hfr : (U.setTop g).frames = (.java g :: mid) ++ below := by rw [State.frames_setTop' g h.top, hmid]; rfl
  obtain ⟨o, s₂, hsteps, -, hend, hq⟩ := Steps.callFree hM p X.admits X.cas X.clock (acts := []) hfr happ hPc trivial
  have hq' : vx_Q Qc XC mc ms free a (U.calling g mk a) o s₂ := hq
  rw [State.frames_setTop' g h.top] at hend
  obtain ⟨g₀, hg0⟩ := Option.isSome_iff_exists.mp h.top
  obtain ⟨r, hr⟩ := State.topJava?_eq_some.mp hg0
  have hr' : (({ U with heap := s₂.heap, slotsUsed := s₂.slotsUsed } : State).setVm s₂.vm).frames = .java g₀ :: r := hr
  rcases hq' with ⟨hqc, L, hfe, hL⟩ | ⟨q, rfl, E, ce, L, hx, hce, hcv, hcl, hW₂, hsm, hL⟩
  · obtain ⟨⟨v, rfl⟩, hW₂, e2, q2, q3, q4, q5, q6⟩ := id hfe
    have e3 : s₂ = ({ (U.calling g mk a).setFrames s₂.frames with heap := s₂.heap, slotsUsed := s₂.slotsUsed } : State).setVm s₂.vm := by
      have : s₂ = ({ s₂ with vm := (U.calling g mk a).vm } : State).setVm s₂.vm := rfl
      rw [e2] at this
      exact this
    obtain ⟨c₂, i₂, len₂, hc₂, hd₂, hf₂⟩ := hend
    have hW' : U.WarmedH s₂.vm := hW₂
    have hcc : c₂ = c := by
      have h1 : s₂.code? g.method = U.code? g.method := by
        rw [State.code?_eq, State.code?_eq, hW'.alike.method?]
      exact Option.some.inj (hc₂.symm.trans (h1.trans h.code))
    subst hcc
    have hlen : len₂ = len := by rw [hdg] at hd₂; cases hd₂; rfl
    subst hlen
    have hs₂ : s₂ = (({ U with heap := s₂.heap, slotsUsed := s₂.slotsUsed } : State).setVm s₂.vm).setTop { g with pc := g.pc + len₂, stack := v.toList ++ g.stack } := by
      refine e3.trans ?_
      rw [hf₂, State.calling_eq h.top, State.setFrames_setFrames, State.setTop_of_frames _ hr', hr]
      rfl
    have hsame : U.sameButNew ({ U with heap := s₂.heap, slotsUsed := s₂.slotsUsed } : State) L mc ms := by
      refine ⟨?_, q2, q3, q4, q5, q6⟩
      obtain ⟨t, ht, -⟩ := State.frames_cons hr
      show ({ U with heap := s₂.heap, slotsUsed := s₂.slotsUsed } : State) = { U.setFrames U.frames with heap := s₂.heap, slotsUsed := s₂.slotsUsed }
      rw [State.setFrames_self ht]
    subst hg
    refine Or.inl ⟨v, ⟨(({ U with heap := s₂.heap, slotsUsed := s₂.slotsUsed } : State).setVm s₂.vm), Ls ++ L, c0 + mc, s0 + ms⟩,
      ⟨X.admits, X.cas, X.clock, X.frames, X.room, X.hears, X.method, X.code, (X.here.setHeapUsed s₂.heap s₂.slotsUsed).setVm hW'.alike, X.tail, State.WarmedH.trans X.warmed hW', X.limits, X.bytes, X.same.trans (hsame.setVm s.vm)⟩,
      ⟨g, mk, s₂, L, rfl, rfl, hqc, rfl, hL, rfl, rfl⟩, ?_⟩
    show Steps p.tables e below _ ((({ U with heap := s₂.heap, slotsUsed := s₂.slotsUsed } : State).setVm s₂.vm).setTop { g with pc := g.pc + len₂, stack := v.toList ++ g.stack })
    rw [← hs₂]
    exact hsteps
  · obtain ⟨e2, q2, q3, q4, q5, q6⟩ := id hsm
    have e3 : s₂ = ({ (U.calling g mk a).setFrames s₂.frames with heap := s₂.heap, slotsUsed := s₂.slotsUsed } : State).setVm s₂.vm := by
      have : s₂ = ({ s₂ with vm := (U.calling g mk a).vm } : State).setVm s₂.vm := rfl
      rw [e2] at this
      exact this
    have hf₂ : s₂.frames = .throwing q :: .java g :: U.frames.tail := hend
    have hW' : U.WarmedH s₂.vm := hW₂
    have hs₂ : s₂ = ((({ U with heap := s₂.heap, slotsUsed := s₂.slotsUsed } : State).setVm s₂.vm).setTop g).pushFrame (.throwing q) := by
      refine e3.trans ?_
      rw [hf₂, State.calling_eq h.top, State.setFrames_setFrames, State.pushFrame, State.frames_setTop _ hr', State.setTop_of_frames _ hr', State.setFrames_setFrames, hr]
      rfl
    have hsame : U.sameButNew ({ U with heap := s₂.heap, slotsUsed := s₂.slotsUsed } : State) L mc ms := by
      refine ⟨?_, q2, q3, q4, q5, q6⟩
      obtain ⟨t, ht, -⟩ := State.frames_cons hr
      show ({ U with heap := s₂.heap, slotsUsed := s₂.slotsUsed } : State) = { U.setFrames U.frames with heap := s₂.heap, slotsUsed := s₂.slotsUsed }
      rw [State.setFrames_self ht]
    subst hg
    refine Or.inr ⟨q, ⟨(({ U with heap := s₂.heap, slotsUsed := s₂.slotsUsed } : State).setVm s₂.vm), Ls ++ L, c0 + mc, s0 + ms⟩,
      ⟨X.admits, X.cas, X.clock, X.frames, X.room, X.hears, X.method, X.code, (X.here.setHeapUsed s₂.heap s₂.slotsUsed).setVm hW'.alike, X.tail, State.WarmedH.trans X.warmed hW', X.limits, X.bytes, X.same.trans (hsame.setVm s.vm)⟩,
      ⟨g, mk, s₂, L, E, ce, rfl, rfl, hx, hce, hcv, hcl, rfl, hL, rfl, rfl⟩, ?_⟩
    show Steps p.tables e below _ (((({ U with heap := s₂.heap, slotsUsed := s₂.slotsUsed } : State).setVm s₂.vm).setTop g).pushFrame (.throwing q))
    rw [← hs₂]
    exact hsteps
end Payer
section Calls
variable {p : Program} {l : Launch} {e : Env} {R : Room} {s : State} {m : MethodId} {args : Array Value} {below : List Frame} {meth : Method} {c : Code} {T : State} {locs : List Loc} {cells slots : Nat}
theorem vx_callV (X : Stand p l e R s m args below meth c T locs cells slots) (hexec : p.tables.exec = Jvm.exec) {own C : String} {index : Nat} {y : MethodName} {bytes : ByteArray} {maxL : Nat} {ret : Option FieldType}
    (hown : s.vm.findClass own = some m.cls) (hlink : (Cond.methodLink own index y).before args s = true) (hinst : (Cond.instanceMethod y).before args s = true) (hsel : (Cond.selects C y y).before args s = true)
    (hcode : (Cond.code y bytes maxL ret).before args s = true) (hy : y.cls ≠ "java/lang/invoke/MethodHandle" ∧ y.cls ≠ "java/lang/invoke/VarHandle")
    {W9 : Nat} {Pre : Pt → Array Value → Prop} {Post : Pt → Array Value → Option Value → Pt → Prop} {PostX : Pt → Array Value → Addr → Pt → Prop} (hK : vx_Back l R p e below s args y 3 W9 Pre Post PostX)
    {b : Addr} {cellB : Cell} (hcell : T.heap[b]? = some cellB) (hobj : cellB.vm.isStatics = false) (hcls : s.vm.findClass C = some cellB.cls)
    {g : JFrame} (hg : g.method = m) (hsize : g.locals.size = c.maxLocals) {argsL rest : List Value} (hlen : ∀ sig, parseMethodDescriptor y.desc = some sig → argsL.length = sig.parameters.length)
    (hstack : g.stack = argsL.reverse ++ .ref b :: rest) (hW : 2 * g.monitorRoom + (rest.map fun v => v.category).sum ≤ W9) (hdg : decode c.code g.pc = .ok (.invokevirtual index, 3))
    (hpre : ∀ vm₁, s.WarmedH vm₁ → Pre ⟨T.setVm vm₁, locs, cells, slots⟩ (Value.ref b :: argsL).toArray) :
    (∃ (v : Option Value) (vm₁ : Vm) (B : Pt), s.WarmedH vm₁ ∧ Stand p l e R s m args below meth c B.U B.locs B.cells B.slots ∧ Post ⟨T.setVm vm₁, locs, cells, slots⟩ (Value.ref b :: argsL).toArray v B ∧
      ∀ target, Steps p.tables e below (B.U.setTop { g with pc := g.pc + 3, stack := v.toList ++ rest }) target → Steps p.tables e below (T.setTop g) target) ∨
    (∃ (q : Addr) (vm₁ : Vm) (B : Pt), s.WarmedH vm₁ ∧ Stand p l e R s m args below meth c B.U B.locs B.cells B.slots ∧ PostX ⟨T.setVm vm₁, locs, cells, slots⟩ (Value.ref b :: argsL).toArray q B ∧
      Steps p.tables e below (T.setTop g) ((B.U.setTop { g with stack := rest }).pushFrame (.throwing q))) := by
  obtain ⟨mk, methM, hnamed, hmethM, hstM, habM⟩ := Cond.instanceMethod_spec hinst
  obtain ⟨methM', cM, hmethM', -, -, -, -, -, -, hsigM⟩ := Cond.code_spec hnamed hcode
  cases hmethM.symm.trans hmethM'
  obtain ⟨c2, r2, m2, q1, q2, q3, q4, kP, hkP, hkPi⟩ := Cond.selects_spec hsel
  cases hcls.symm.trans q1
  cases (State.methodFound?_of_named hnamed hy).symm.trans q2
  cases hnamed.symm.trans q3
  have hselP : selectMethod e.platform s.vm cellB.cls mk = .method mk := by rw [Launch.admits_selectMethod X.admits]; exact q4
  obtain ⟨vm₁, X₁, hstep₁⟩ := X.invokevirtual hexec hown hlink hnamed hmethM hstM hkP hkPi hy (a := b) (cell := cellB) hcell
    (fun z h => by rw [h] at hobj; cases hobj) hselP hmethM habM hkP hkPi (g := g) hg (argsL := argsL) (rest := rest) (hlen _ hsigM) hstack hdg
  rcases hK m meth c ⟨T.setVm vm₁, locs, cells, slots⟩ { g with stack := rest } (.invokevirtual index) mk (Value.ref b :: argsL).toArray X₁ hg hsize hdg hW (X₁.named hnamed) (hpre vm₁ X₁.warmed) with ⟨v, B, X', hpost, hsteps⟩ | ⟨q, B, X', hpost, hsteps⟩
  · exact Or.inl ⟨v, vm₁, B, X₁.warmed, X', hpost, fun target h => hstep₁ _ fun acts => by rw [doInvoke_state]; exact hsteps.trans h⟩
  · exact Or.inr ⟨q, vm₁, B, X₁.warmed, X', hpost, hstep₁ _ fun acts => by rw [doInvoke_state]; exact hsteps⟩
theorem vx_callS (X : Stand p l e R s m args below meth c T locs cells slots) (hexec : p.tables.exec = Jvm.exec) {own : String} {index : Nat} {y : MethodName} {bytes : ByteArray} {maxL : Nat} {ret : Option FieldType}
    (hown : s.vm.findClass own = some m.cls) (hlink : (Cond.methodLink own index y).before args s = true) (hstat : (Cond.static y).before args s = true) (hinit : (Cond.initialized y.cls).before args s = true)
    (hcode : (Cond.code y bytes maxL ret).before args s = true) (hy : y.cls ≠ "java/lang/invoke/MethodHandle" ∧ y.cls ≠ "java/lang/invoke/VarHandle")
    {W9 : Nat} {Pre : Pt → Array Value → Prop} {Post : Pt → Array Value → Option Value → Pt → Prop} {PostX : Pt → Array Value → Addr → Pt → Prop} (hK : vx_Back l R p e below s args y 3 W9 Pre Post PostX)
    {g : JFrame} (hg : g.method = m) (hsize : g.locals.size = c.maxLocals) {argsL rest : List Value} (hlen : ∀ sig, parseMethodDescriptor y.desc = some sig → argsL.length = sig.parameters.length)
    (hstack : g.stack = argsL.reverse ++ rest) (hW : 2 * g.monitorRoom + (rest.map fun v => v.category).sum ≤ W9) (hdg : decode c.code g.pc = .ok (.invokestatic index, 3))
    (hpre : ∀ vm₁, s.WarmedH vm₁ → Pre ⟨T.setVm vm₁, locs, cells, slots⟩ argsL.toArray) :
    (∃ (v : Option Value) (vm₁ : Vm) (B : Pt), s.WarmedH vm₁ ∧ Stand p l e R s m args below meth c B.U B.locs B.cells B.slots ∧ Post ⟨T.setVm vm₁, locs, cells, slots⟩ argsL.toArray v B ∧
      ∀ target, Steps p.tables e below (B.U.setTop { g with pc := g.pc + 3, stack := v.toList ++ rest }) target → Steps p.tables e below (T.setTop g) target) ∨
    (∃ (q : Addr) (vm₁ : Vm) (B : Pt), s.WarmedH vm₁ ∧ Stand p l e R s m args below meth c B.U B.locs B.cells B.slots ∧ PostX ⟨T.setVm vm₁, locs, cells, slots⟩ argsL.toArray q B ∧
      Steps p.tables e below (T.setTop g) ((B.U.setTop { g with stack := rest }).pushFrame (.throwing q))) := by
  obtain ⟨mk, hnamed⟩ := Cond.code_named hcode
  obtain ⟨methM, cM, hmethM, -, -, -, -, -, -, hsigM⟩ := Cond.code_spec hnamed hcode
  have hstatic : methM.isStatic = true := Cond.static_spec hnamed hmethM hstat
  obtain ⟨kP, hkP, -⟩ := className_of_methodNamed hnamed
  have hinitP : kP.init = .initialized := Cond.initialized_spec (findClass_of_methodNamed hnamed) hkP hinit
  obtain ⟨vm₁, X₁, hstep₁⟩ := X.invokestatic hexec hown hlink hnamed hmethM hstatic hkP hinitP hy (g := g) hg (argsL := argsL) (rest := rest) (hlen _ hsigM) hstack hdg
  rcases hK m meth c ⟨T.setVm vm₁, locs, cells, slots⟩ { g with stack := rest } (.invokestatic index) mk argsL.toArray X₁ hg hsize hdg hW (X₁.named hnamed) (hpre vm₁ X₁.warmed) with ⟨v, B, X', hpost, hsteps⟩ | ⟨q, B, X', hpost, hsteps⟩
  · exact Or.inl ⟨v, vm₁, B, X₁.warmed, X', hpost, fun target h => hstep₁ _ fun acts => by rw [doInvoke_state]; exact hsteps.trans h⟩
  · exact Or.inr ⟨q, vm₁, B, X₁.warmed, X', hpost, hstep₁ _ fun acts => by rw [doInvoke_state]; exact hsteps⟩
end Calls
theorem vx_cls {s : State} {T : State} {vm₁ : Vm} {E : String} {k : ClassId} (hW : s.WarmedH vm₁) (h : (T.setVm vm₁).vm.findClass E = some k) : s.vm.findClass E = some k := by
  have h1 : vm₁.findClass E = some k := h
  rw [hW.alike.findClass] at h1
  exact h1
/-- the method's frame g, with q thrown over it -/
def vx_W (p : Program) (l : Launch) (e : Env) (R : Room) (s : State) (m : MethodId) (args : Array Value) (below : List Frame) (meth : Method) (c : Code) (H : Heap) (locs : List Loc) (cells slots : Nat) (Q : State → Prop) (g : JFrame) (q : Addr) : Prop :=
  ∀ T : State, T.heap = H → Stand p l e R s m args below meth c T locs cells slots → ∃ t, Steps p.tables e below ((T.setTop g).pushFrame (.throwing q)) t ∧ Q t
def vx_Run (p : Program) (l : Launch) (e : Env) (R : Room) (s : State) (m : MethodId) (args : Array Value) (below : List Frame) (meth : Method) (c : Code) (H : Heap) (locs : List Loc) (cells slots mc ms : Nat) (g : JFrame) (rest : List Value) (Qa : State → Outcome → State → Prop) (XC : String → State → State → Prop) (free : Addr → Prop) : Prop :=
  ∀ T : State, T.heap = H → Stand p l e R s m args below meth c T locs cells slots →
    (∃ (v : Option Value) (st₀ t T' : State) (L : List Loc), st₀.heap = H ∧ Stand p l e R s m args below meth c T' (locs ++ L) (cells + mc) (slots + ms) ∧ (∀ q ∈ L, free q.base) ∧ T'.heap = t.heap ∧ T'.vm = t.vm ∧ Qa st₀ (.returned v) t ∧
      Goes p e below T g T' { g with pc := g.pc + 3, stack := v.toList ++ rest }) ∨
    (∃ (q : Addr) (st₀ t T' : State) (L : List Loc) (E : String) (ce : Cell), st₀.heap = H ∧ Stand p l e R s m args below meth c T' (locs ++ L) (cells + mc) (slots + ms) ∧ (∀ z ∈ L, free z.base) ∧ T'.heap = t.heap ∧ T'.vm = t.vm ∧ XC E st₀ t ∧ t.heap[q]? = some ce ∧ ce.vm = .none ∧ s.vm.findClass E = some ce.cls ∧
      Steps p.tables e below (T.setTop g) ((T'.setTop { g with stack := rest }).pushFrame (.throwing q)))
def vx_X {S : Type} (px : S → Prop) (B : String → S → State → Prop) (A : Nat → Prop) : String → State → State → Prop := fun E st t => ∃ u : S, px u ∧ B E u t ∧ va_F A st t
section Runs
variable {p : Program} {l : Launch} {e : Env} {R : Room} {s : State} {m : MethodId} {args : Array Value} {below : List Frame} {meth : Method} {c : Code} {H : Heap} {locs : List Loc} {cells slots : Nat}
variable {y : MethodName} {bytes cc : ByteArray} {maxL nL mc ms n index : Nat} {ret : Option FieldType} {ws : List Cond} {rm : Room} {Pc : Array Value → State → Prop} {Qc : Array Value → State → Outcome → State → Prop} {XC : String → State → State → Prop} {free : Addr → Prop} {Ts : List Cond} {own C : String} {b : Addr} {As rest : List Value} {g : JFrame}
theorem vx_callBack (cb : CallB R s args own index y bytes maxL ret ws rm mc ms n) (hM : vx_Met l y ws rm Pc Qc XC mc ms free) (hbl : FrameBlind Pc) : vx_Back l R p e below s args y 3 8 (PreOf R mc ms Pc) (PostOf Qc mc ms free) (vx_Post XC mc ms free) := by
  obtain ⟨hrc, hrs, hfr, hlo, hws, hcw, -, hini, -⟩ := cb
  exact vx_back (bytes := bytes) (maxL := maxL) (ret := ret) hM hbl hrc hrs hfr hlo hws hcw (fun a' U hW => word_at hW (Or.inl (by first | rfl | simp [Cond.onTables, Cond.keeps, Cond.steady])) hini)
theorem vx_runV (S : CallFix p m c cc nL s args Ts own) (hM : vx_Met l y ws rm Pc Qc XC mc ms free) (cw : CallW R s args own C index y bytes maxL ret ws rm mc ms n) (hp : PreV s H C b Pc As)
    (hg : g.method = m) (hn : As.length = n) (hsize : g.locals.size = nL) (hstack : g.stack = As.reverse ++ .ref b :: rest) (hW : 2 * g.monitorRoom + (rest.map fun v => v.category).sum ≤ 8) (hdg : decode cc g.pc = .ok (.invokevirtual index, 3)) (hf : cells + mc ≤ R.cells ∧ slots + ms ≤ R.slots) :
    vx_Run p l e R s m args below meth c H locs cells slots mc ms g rest (Qc (Value.ref b :: As).toArray) XC free := by
  have hK : vx_Back l R p e below s args y 3 8 (PreOf R mc ms Pc) (PostOf Qc mc ms free) (vx_Post XC mc ms free) := vx_callBack cw.1 hM hp.1
  obtain ⟨⟨-, -, -, -, -, -, hcode, -, hy, hlen, hl⟩, hin, hse⟩ := cw
  obtain ⟨hx, hb, hml, ho, -⟩ := S
  obtain ⟨-, ⟨cellB, hcB, hoB, hclB⟩, hPc⟩ := hp
  intro T hT X
  rcases vx_callV X hx (C := C) (bytes := bytes) (maxL := maxL) (ret := ret) ho hl hin hse hcode hy hK (by rw [hT]; exact hcB) hoB hclB hg (hsize.trans hml.symm) (argsL := As) (rest := rest) (fun sig h => hn.trans (hlen sig h)) hstack hW (by rw [hb]; exact hdg)
    (fun vm₁ hW₁ => ⟨hf.1, hf.2, hPc (T.setVm vm₁) hT hW₁⟩) with ⟨v, vm₁, ⟨U', l2, c2, s2⟩, hW₁, X', ⟨g', mk, t, L, e1, e2, hq, h1, hL, h2, h3⟩, st⟩ | ⟨q, vm₁, ⟨U', l2, c2, s2⟩, hW₁, X', ⟨g', mk, t, L, E, ce, e1, e2, hq, hce, hcv, hcl, h1, hL, h2, h3⟩, st⟩
  · dsimp only [Pt.U, Pt.locs, Pt.cells, Pt.slots] at X' e1 e2 h1 h2 h3 st
    subst h1; subst h2; subst h3
    exact Or.inl ⟨v, (T.setVm vm₁).calling g' mk (Value.ref b :: As).toArray, t, U', L, hT, X', hL, e1, e2, hq, st⟩
  · dsimp only [Pt.U, Pt.locs, Pt.cells, Pt.slots] at X' e1 e2 h1 h2 h3 st hcl
    subst h1; subst h2; subst h3
    exact Or.inr ⟨q, (T.setVm vm₁).calling g' mk (Value.ref b :: As).toArray, t, U', L, E, ce, hT, X', hL, e1, e2, hq, hce, hcv, vx_cls hW₁ hcl, st⟩
theorem vx_runS (S : CallFix p m c cc nL s args Ts own) (hM : vx_Met l y ws rm Pc Qc XC mc ms free) (cw : CallB R s args own index y bytes maxL ret ws rm mc ms n ∧ (Cond.static y).before args s = true) (hp : PreS s H Pc As)
    (hg : g.method = m) (hn : As.length = n) (hsize : g.locals.size = nL) (hstack : g.stack = As.reverse ++ rest) (hW : 2 * g.monitorRoom + (rest.map fun v => v.category).sum ≤ 8) (hdg : decode cc g.pc = .ok (.invokestatic index, 3)) (hf : cells + mc ≤ R.cells ∧ slots + ms ≤ R.slots) :
    vx_Run p l e R s m args below meth c H locs cells slots mc ms g rest (Qc As.toArray) XC free := by
  have hK : vx_Back l R p e below s args y 3 8 (PreOf R mc ms Pc) (PostOf Qc mc ms free) (vx_Post XC mc ms free) := vx_callBack cw.1 hM hp.1
  obtain ⟨⟨-, -, -, -, -, -, hcode, hini, hy, hlen, hl⟩, hstt⟩ := cw
  obtain ⟨hx, hb, hml, ho, -⟩ := S
  intro T hT X
  rcases vx_callS X hx (bytes := bytes) (maxL := maxL) (ret := ret) ho hl hstt hini hcode hy hK hg (hsize.trans hml.symm) (argsL := As) (rest := rest) (fun sig h => hn.trans (hlen sig h)) hstack hW (by rw [hb]; exact hdg)
    (fun vm₁ hW₁ => ⟨hf.1, hf.2, hp.2 (T.setVm vm₁) hT hW₁⟩) with ⟨v, vm₁, ⟨U', l2, c2, s2⟩, hW₁, X', ⟨g', mk, t, L, e1, e2, hq, h1, hL, h2, h3⟩, st⟩ | ⟨q, vm₁, ⟨U', l2, c2, s2⟩, hW₁, X', ⟨g', mk, t, L, E, ce, e1, e2, hq, hce, hcv, hcl, h1, hL, h2, h3⟩, st⟩
  · dsimp only [Pt.U, Pt.locs, Pt.cells, Pt.slots] at X' e1 e2 h1 h2 h3 st
    subst h1; subst h2; subst h3
    exact Or.inl ⟨v, (T.setVm vm₁).calling g' mk As.toArray, t, U', L, hT, X', hL, e1, e2, hq, st⟩
  · dsimp only [Pt.U, Pt.locs, Pt.cells, Pt.slots] at X' e1 e2 h1 h2 h3 st hcl
    subst h1; subst h2; subst h3
    exact Or.inr ⟨q, (T.setVm vm₁).calling g' mk As.toArray, t, U', L, E, ce, hT, X', hL, e1, e2, hq, hce, hcv, vx_cls hW₁ hcl, st⟩
end Runs
section Rows
variable {p : Program} {l : Launch} {e : Env} {R : Room} {s : State} {m : MethodId} {args : Array Value} {below : List Frame} {meth : Method} {c : Code} {H : Heap} {locs : List Loc} {cells slots : Nat} {Q : State → Prop}
variable {mc ms : Nat} {free : Addr → Prop} {A0 A1 : Nat → Prop} {H0 : Heap} {a : Array Value} {pc : Nat} {ls : Array Slot} {st0 rest : List Value}
theorem vx_keep {st₀ t T' : State} {L : List Loc} (h0 : st₀.heap = H) (e1 : T'.heap = t.heap) (hS : va_S A0 H0 H locs) (hA : ∀ q, q < H.size → A1 q → A0 q) (hf : ∀ q, free q → A0 q) (hL : ∀ q ∈ L, free q.base) (hF : va_F A1 st₀ t) :
    H.size ≤ T'.heap.size ∧ (∀ q : Nat, q < H.size → ¬ A1 q → T'.heap[q]? = H[q]?) ∧ va_S A0 H0 T'.heap (locs ++ L) := by
  obtain ⟨hz, hk⟩ := hF
  rw [h0] at hz hk
  exact ⟨by rw [e1]; exact hz, fun q h1 h2 => by rw [e1]; exact hk q h1 h2,
    ⟨Nat.le_trans hS.1 (by rw [e1]; exact hz), fun q h1 h2 => by rw [e1, hk q (Nat.lt_of_lt_of_le h1 hS.1) (fun z => h2 (hA q (Nat.lt_of_lt_of_le h1 hS.1) z))]; exact hS.2.1 q h1 h2, fun q hq => by
      rcases List.mem_append.mp hq with h | h
      · exact hS.2.2 q h
      · exact hf _ (hL q h)⟩⟩
theorem vx_calli {S SX : Type} {post : Int32 → S → Prop} {px : SX → Prop} {B : S → State → Prop} {BX : String → SX → State → Prop} {AX : Nat → Prop} (hr : vx_Run p l e R s m args below meth c H locs cells slots mc ms (F0 m pc ls st0) rest (va_Qi post B A1 a) (vx_X px BX AX) free) (hS : va_S A0 H0 H locs) (hA : ∀ q, q < H.size → A1 q → A0 q) (hf : ∀ q, free q → A0 q) (hAX : ∀ q, q < H.size → AX q → A0 q)
    (kx : ∀ (E : String) (ce : Cell) (q9 : Addr) (u : SX) (t : State) (H1 : Heap) (locs1 : List Loc), t.heap = H1 → s.vm.Alike t.vm → px u → BX E u t → H.size ≤ H1.size → (∀ q : Nat, q < H.size → ¬ AX q → H1[q]? = H[q]?) → va_S A0 H0 H1 locs1 → H1[q9]? = some ce → ce.vm = .none → s.vm.findClass E = some ce.cls → vx_W p l e R s m args below meth c H1 locs1 (cells + mc) (slots + ms) Q (F0 m pc ls rest) q9)
    (kk : ∀ (r : Int32) (u : S) (t : State) (H1 : Heap) (locs1 : List Loc), t.heap = H1 → s.vm.Alike t.vm → post r u → B u t → H.size ≤ H1.size → (∀ q : Nat, q < H.size → ¬ A1 q → H1[q]? = H[q]?) → va_S A0 H0 H1 locs1 → W p l e R s m args below meth c H1 locs1 (cells + mc) (slots + ms) Q (F0 m (pc + 3) ls (.int r :: rest))) : W p l e R s m args below meth c H locs cells slots Q (F0 m pc ls st0) := by
  intro T hT X
  rcases hr T hT X with ⟨v, st₀, t, T', L, h0, X', hL, e1, e2, ⟨⟨r, u, hv, hp, hb⟩, hF⟩, st⟩ | ⟨q, st₀, t, T', L, E, ce, h0, X', hL, e1, e2, ⟨u, hp, hb, hF⟩, hce, hcv, hcl, st⟩
  · cases hv
    obtain ⟨k1, k2, k3⟩ := vx_keep h0 e1 hS hA hf hL hF
    obtain ⟨t2, a1, b1⟩ := kk r u t T'.heap (locs ++ L) e1.symm (by rw [← e2]; exact X'.warmed.alike) hp hb k1 k2 k3 T' rfl X'
    exact ⟨t2, st t2 a1, b1⟩
  · obtain ⟨k1, k2, k3⟩ := vx_keep h0 e1 hS hAX hf hL hF
    obtain ⟨t2, a1, b1⟩ := kx E ce q u t T'.heap (locs ++ L) e1.symm (by rw [← e2]; exact X'.warmed.alike) hp hb k1 k2 k3 (by rw [e1]; exact hce) hcv hcl T' rfl X'
    exact ⟨t2, st.trans a1, b1⟩
theorem vx_calll {S SX : Type} {post : Int64 → S → Prop} {px : SX → Prop} {B : S → State → Prop} {BX : String → SX → State → Prop} {AX : Nat → Prop} (hr : vx_Run p l e R s m args below meth c H locs cells slots mc ms (F0 m pc ls st0) rest (va_Ql post B A1 a) (vx_X px BX AX) free) (hS : va_S A0 H0 H locs) (hA : ∀ q, q < H.size → A1 q → A0 q) (hf : ∀ q, free q → A0 q) (hAX : ∀ q, q < H.size → AX q → A0 q)
    (kx : ∀ (E : String) (ce : Cell) (q9 : Addr) (u : SX) (t : State) (H1 : Heap) (locs1 : List Loc), t.heap = H1 → s.vm.Alike t.vm → px u → BX E u t → H.size ≤ H1.size → (∀ q : Nat, q < H.size → ¬ AX q → H1[q]? = H[q]?) → va_S A0 H0 H1 locs1 → H1[q9]? = some ce → ce.vm = .none → s.vm.findClass E = some ce.cls → vx_W p l e R s m args below meth c H1 locs1 (cells + mc) (slots + ms) Q (F0 m pc ls rest) q9)
    (kk : ∀ (r : Int64) (u : S) (t : State) (H1 : Heap) (locs1 : List Loc), t.heap = H1 → s.vm.Alike t.vm → post r u → B u t → H.size ≤ H1.size → (∀ q : Nat, q < H.size → ¬ A1 q → H1[q]? = H[q]?) → va_S A0 H0 H1 locs1 → W p l e R s m args below meth c H1 locs1 (cells + mc) (slots + ms) Q (F0 m (pc + 3) ls (.long r :: rest))) : W p l e R s m args below meth c H locs cells slots Q (F0 m pc ls st0) := by
  intro T hT X
  rcases hr T hT X with ⟨v, st₀, t, T', L, h0, X', hL, e1, e2, ⟨⟨r, u, hv, hp, hb⟩, hF⟩, st⟩ | ⟨q, st₀, t, T', L, E, ce, h0, X', hL, e1, e2, ⟨u, hp, hb, hF⟩, hce, hcv, hcl, st⟩
  · cases hv
    obtain ⟨k1, k2, k3⟩ := vx_keep h0 e1 hS hA hf hL hF
    obtain ⟨t2, a1, b1⟩ := kk r u t T'.heap (locs ++ L) e1.symm (by rw [← e2]; exact X'.warmed.alike) hp hb k1 k2 k3 T' rfl X'
    exact ⟨t2, st t2 a1, b1⟩
  · obtain ⟨k1, k2, k3⟩ := vx_keep h0 e1 hS hAX hf hL hF
    obtain ⟨t2, a1, b1⟩ := kx E ce q u t T'.heap (locs ++ L) e1.symm (by rw [← e2]; exact X'.warmed.alike) hp hb k1 k2 k3 (by rw [e1]; exact hce) hcv hcl T' rfl X'
    exact ⟨t2, st.trans a1, b1⟩
theorem vx_callf {S SX : Type} {post : UInt32 → S → Prop} {px : SX → Prop} {B : S → State → Prop} {BX : String → SX → State → Prop} {AX : Nat → Prop} (hr : vx_Run p l e R s m args below meth c H locs cells slots mc ms (F0 m pc ls st0) rest (va_Qf post B A1 a) (vx_X px BX AX) free) (hS : va_S A0 H0 H locs) (hA : ∀ q, q < H.size → A1 q → A0 q) (hf : ∀ q, free q → A0 q) (hAX : ∀ q, q < H.size → AX q → A0 q)
    (kx : ∀ (E : String) (ce : Cell) (q9 : Addr) (u : SX) (t : State) (H1 : Heap) (locs1 : List Loc), t.heap = H1 → s.vm.Alike t.vm → px u → BX E u t → H.size ≤ H1.size → (∀ q : Nat, q < H.size → ¬ AX q → H1[q]? = H[q]?) → va_S A0 H0 H1 locs1 → H1[q9]? = some ce → ce.vm = .none → s.vm.findClass E = some ce.cls → vx_W p l e R s m args below meth c H1 locs1 (cells + mc) (slots + ms) Q (F0 m pc ls rest) q9)
    (kk : ∀ (r : UInt32) (u : S) (t : State) (H1 : Heap) (locs1 : List Loc), t.heap = H1 → s.vm.Alike t.vm → post r u → B u t → H.size ≤ H1.size → (∀ q : Nat, q < H.size → ¬ A1 q → H1[q]? = H[q]?) → va_S A0 H0 H1 locs1 → W p l e R s m args below meth c H1 locs1 (cells + mc) (slots + ms) Q (F0 m (pc + 3) ls (.float r :: rest))) : W p l e R s m args below meth c H locs cells slots Q (F0 m pc ls st0) := by
  intro T hT X
  rcases hr T hT X with ⟨v, st₀, t, T', L, h0, X', hL, e1, e2, ⟨⟨r, u, hv, hp, hb⟩, hF⟩, st⟩ | ⟨q, st₀, t, T', L, E, ce, h0, X', hL, e1, e2, ⟨u, hp, hb, hF⟩, hce, hcv, hcl, st⟩
  · cases hv
    obtain ⟨k1, k2, k3⟩ := vx_keep h0 e1 hS hA hf hL hF
    obtain ⟨t2, a1, b1⟩ := kk r u t T'.heap (locs ++ L) e1.symm (by rw [← e2]; exact X'.warmed.alike) hp hb k1 k2 k3 T' rfl X'
    exact ⟨t2, st t2 a1, b1⟩
  · obtain ⟨k1, k2, k3⟩ := vx_keep h0 e1 hS hAX hf hL hF
    obtain ⟨t2, a1, b1⟩ := kx E ce q u t T'.heap (locs ++ L) e1.symm (by rw [← e2]; exact X'.warmed.alike) hp hb k1 k2 k3 (by rw [e1]; exact hce) hcv hcl T' rfl X'
    exact ⟨t2, st.trans a1, b1⟩
theorem vx_calld {S SX : Type} {post : UInt64 → S → Prop} {px : SX → Prop} {B : S → State → Prop} {BX : String → SX → State → Prop} {AX : Nat → Prop} (hr : vx_Run p l e R s m args below meth c H locs cells slots mc ms (F0 m pc ls st0) rest (va_Qd post B A1 a) (vx_X px BX AX) free) (hS : va_S A0 H0 H locs) (hA : ∀ q, q < H.size → A1 q → A0 q) (hf : ∀ q, free q → A0 q) (hAX : ∀ q, q < H.size → AX q → A0 q)
    (kx : ∀ (E : String) (ce : Cell) (q9 : Addr) (u : SX) (t : State) (H1 : Heap) (locs1 : List Loc), t.heap = H1 → s.vm.Alike t.vm → px u → BX E u t → H.size ≤ H1.size → (∀ q : Nat, q < H.size → ¬ AX q → H1[q]? = H[q]?) → va_S A0 H0 H1 locs1 → H1[q9]? = some ce → ce.vm = .none → s.vm.findClass E = some ce.cls → vx_W p l e R s m args below meth c H1 locs1 (cells + mc) (slots + ms) Q (F0 m pc ls rest) q9)
    (kk : ∀ (r : UInt64) (u : S) (t : State) (H1 : Heap) (locs1 : List Loc), t.heap = H1 → s.vm.Alike t.vm → post r u → B u t → H.size ≤ H1.size → (∀ q : Nat, q < H.size → ¬ A1 q → H1[q]? = H[q]?) → va_S A0 H0 H1 locs1 → W p l e R s m args below meth c H1 locs1 (cells + mc) (slots + ms) Q (F0 m (pc + 3) ls (.double r :: rest))) : W p l e R s m args below meth c H locs cells slots Q (F0 m pc ls st0) := by
  intro T hT X
  rcases hr T hT X with ⟨v, st₀, t, T', L, h0, X', hL, e1, e2, ⟨⟨r, u, hv, hp, hb⟩, hF⟩, st⟩ | ⟨q, st₀, t, T', L, E, ce, h0, X', hL, e1, e2, ⟨u, hp, hb, hF⟩, hce, hcv, hcl, st⟩
  · cases hv
    obtain ⟨k1, k2, k3⟩ := vx_keep h0 e1 hS hA hf hL hF
    obtain ⟨t2, a1, b1⟩ := kk r u t T'.heap (locs ++ L) e1.symm (by rw [← e2]; exact X'.warmed.alike) hp hb k1 k2 k3 T' rfl X'
    exact ⟨t2, st t2 a1, b1⟩
  · obtain ⟨k1, k2, k3⟩ := vx_keep h0 e1 hS hAX hf hL hF
    obtain ⟨t2, a1, b1⟩ := kx E ce q u t T'.heap (locs ++ L) e1.symm (by rw [← e2]; exact X'.warmed.alike) hp hb k1 k2 k3 (by rw [e1]; exact hce) hcv hcl T' rfl X'
    exact ⟨t2, st.trans a1, b1⟩
theorem vx_callv {S SX : Type} {post : S → Prop} {px : SX → Prop} {B : S → State → Prop} {BX : String → SX → State → Prop} {AX : Nat → Prop} (hr : vx_Run p l e R s m args below meth c H locs cells slots mc ms (F0 m pc ls st0) rest (va_Qv post B A1 a) (vx_X px BX AX) free) (hS : va_S A0 H0 H locs) (hA : ∀ q, q < H.size → A1 q → A0 q) (hf : ∀ q, free q → A0 q) (hAX : ∀ q, q < H.size → AX q → A0 q)
    (kx : ∀ (E : String) (ce : Cell) (q9 : Addr) (u : SX) (t : State) (H1 : Heap) (locs1 : List Loc), t.heap = H1 → s.vm.Alike t.vm → px u → BX E u t → H.size ≤ H1.size → (∀ q : Nat, q < H.size → ¬ AX q → H1[q]? = H[q]?) → va_S A0 H0 H1 locs1 → H1[q9]? = some ce → ce.vm = .none → s.vm.findClass E = some ce.cls → vx_W p l e R s m args below meth c H1 locs1 (cells + mc) (slots + ms) Q (F0 m pc ls rest) q9)
    (kk : ∀ (u : S) (t : State) (H1 : Heap) (locs1 : List Loc), t.heap = H1 → s.vm.Alike t.vm → post u → B u t → H.size ≤ H1.size → (∀ q : Nat, q < H.size → ¬ A1 q → H1[q]? = H[q]?) → va_S A0 H0 H1 locs1 → W p l e R s m args below meth c H1 locs1 (cells + mc) (slots + ms) Q (F0 m (pc + 3) ls (rest))) : W p l e R s m args below meth c H locs cells slots Q (F0 m pc ls st0) := by
  intro T hT X
  rcases hr T hT X with ⟨v, st₀, t, T', L, h0, X', hL, e1, e2, ⟨⟨u, hv, hp, hb⟩, hF⟩, st⟩ | ⟨q, st₀, t, T', L, E, ce, h0, X', hL, e1, e2, ⟨u, hp, hb, hF⟩, hce, hcv, hcl, st⟩
  · cases hv
    obtain ⟨k1, k2, k3⟩ := vx_keep h0 e1 hS hA hf hL hF
    obtain ⟨t2, a1, b1⟩ := kk u t T'.heap (locs ++ L) e1.symm (by rw [← e2]; exact X'.warmed.alike) hp hb k1 k2 k3 T' rfl X'
    exact ⟨t2, st t2 a1, b1⟩
  · obtain ⟨k1, k2, k3⟩ := vx_keep h0 e1 hS hAX hf hL hF
    obtain ⟨t2, a1, b1⟩ := kx E ce q u t T'.heap (locs ++ L) e1.symm (by rw [← e2]; exact X'.warmed.alike) hp hb k1 k2 k3 (by rw [e1]; exact hce) hcv hcl T' rfl X'
    exact ⟨t2, st.trans a1, b1⟩
/-- caught by the row x of this method's table; the rows ahead don't take it -/
theorem vx_catch {own name : String} {E : String} {ce : Cell} {q : Addr} (hown : s.vm.findClass own = some m.cls) (pre : List ExceptionTableEntry) (x : ExceptionTableEntry) (suf : List ExceptionTableEntry) (hsplit : c.exceptionTable.toList = pre ++ x :: suf)
    (hpass : ∀ z ∈ pre, covers z pc = false ∨ (z.catchType ≠ 0 ∧ ∃ nm : String, (Cond.classLink own z.catchType nm).before args s = true ∧ va_Nc E nm s)) (hx : covers x pc = true) (h0 : x.catchType ≠ 0)
    (hlink : (Cond.classLink own x.catchType name).before args s = true) (hcast : (Cond.castable E name).before args s = true) (hcell : H[q]? = some ce) (hv : ce.vm = .none) (hcl : s.vm.findClass E = some ce.cls)
    (kk : W p l e R s m args below meth c H locs cells slots Q (F0 m x.handlerPc ls [.ref q])) : vx_W p l e R s m args below meth c H locs cells slots Q (F0 m pc ls rest) q := by
  intro T hT X
  have hpl : e.platform.magicAccessors = ({} : Platform).magicAccessors := by rw [X.admits.platform]
  obtain ⟨c3, c4, hc3, hc4, hasg⟩ := Cond.castable_spec hcast
  cases Option.some.inj (hc3.symm.trans hcl)
  obtain ⟨c5, hc5, hcl5⟩ := Cond.classLink_spec hown hlink e.platform hpl
  cases Option.some.inj (hc4.symm.trans hc5)
  obtain ⟨vm', X', st⟩ := X.thenCaughtThrough q (g := F0 m pc ls rest) rfl (Steps.refl _) (by rw [hT]; exact hcell) (by rw [hv]; rfl) (by obtain ⟨k9, h9, -⟩ := Vm.findClass_spec hcl; exact ⟨k9, h9⟩) pre x suf hsplit
    (fun z hz => by
      rcases hpass z hz with h | ⟨hz0, nm, hl1, hn1⟩
      · exact Or.inl h
      · obtain ⟨c6, hc6, hcl6⟩ := Cond.classLink_spec hown hl1 e.platform hpl
        obtain ⟨a8, b8, h1, h2, h3⟩ := hn1
        cases Option.some.inj (h1.symm.trans hcl)
        cases Option.some.inj (h2.symm.trans hc6)
        exact Or.inr ⟨hz0, _, hcl6, h3⟩) hx (Or.inr ⟨h0, c4, hcl5, hasg⟩)
  obtain ⟨t, a1, b1⟩ := kk (T.setVm vm') hT X'
  exact ⟨t, st.trans a1, b1⟩
end Rows
section Ends
variable {p : Program} {l : Launch} {e : Env} {R : Room} {s : State} {m : MethodId} {args : Array Value} {below : List Frame} {meth : Method} {c : Code} {H : Heap} {locs : List Loc} {cells slots : Nat} {Q : State → Prop}
variable {mc ms : Nat} {free : Addr → Prop} {A0 A1 : Nat → Prop} {H0 : Heap} {a : Array Value} {ls : Array Slot} {st0 rest : List Value}
variable {Qc : Array Value → State → Outcome → State → Prop} {XC : String → State → State → Prop}
/-- what a body that may throw owes at its end -/
def vx_MQ (below : List Frame) (Qc : Array Value → State → Outcome → State → Prop) (XC : String → State → State → Prop) (a : Array Value) (s : State) (mc ms : Nat) (free : Addr → Prop) : State → Prop := fun t =>
  ∃ o, t.status = .running ∧ Ended t below o ∧ vx_Q Qc XC mc ms free a s o t
theorem vx_ret {g : JFrame} {mc ms : Nat} (k : W p l e R s m args below meth c H locs cells slots (MQ below Qc args s mc ms free) g) : W p l e R s m args below meth c H locs cells slots (vx_MQ below Qc XC args s mc ms free) g := by
  intro T hT X
  obtain ⟨t, a1, o, b1, b2, b3, b4⟩ := k T hT X
  exact ⟨t, a1, o, b1, b2, Or.inl ⟨b3, b4⟩⟩
/-- not caught here: it goes on to the caller -/
theorem vx_widen {g : JFrame} {q : Addr} {k n : Nat} (h1 : cells ≤ k) (h2 : slots ≤ n) (kk : vx_W p l e R s m args below meth c H locs k n Q g q) : vx_W p l e R s m args below meth c H locs cells slots Q g q := fun T hT X => kk T hT (stand_widen X h1 h2)
theorem vx_out {pc : Nat} {E : String} {ce : Cell} {q : Addr} {mc ms : Nat} (hout : ∀ x ∈ c.exceptionTable.toList, covers x pc = false) (hlocks : meth.locks = false) (hcell : H[q]? = some ce) (hv : ce.vm = .none) (hcl : s.vm.findClass E = some ce.cls)
    (hx : ∀ t : State, t.heap = H → s.vm.Alike t.vm → XC E s t) (hf : ∀ z ∈ locs, free z.base) (hc : cells ≤ mc) (hs : slots ≤ ms) :
    vx_W p l e R s m args below meth c H locs cells slots (vx_MQ below Qc XC args s mc ms free) (F0 m pc ls rest) q := by
  intro T hT X
  obtain ⟨st1, hrun, hend, hW, hsm⟩ := X.leaveThrown q (g := F0 m pc ls rest) rfl rfl rfl hout hlocks
  have hcell9 : (T.setFrames (.throwing q :: below)).heap[q]? = some ce := by
    show T.heap[q]? = some ce
    rw [hT]; exact hcell
  exact ⟨_, st1, .threw q, hrun, hend, Or.inr ⟨q, rfl, E, ce, locs, hx _ hT hW.alike, hcell9, hv, hcl, hW, hsm.mono hc hs, hf⟩⟩
theorem vx_frame {U : State} {k n : Nat} (h : s.sameButNew ({ U with vm := s.vm } : State) locs k n) : s.heap.size ≤ U.heap.size ∧ ∀ q : Nat, q < s.heap.size → (∀ z ∈ locs, z.base ≠ q) → U.heap[q]? = s.heap[q]? := by
  obtain ⟨-, h2, -, -, -, h6⟩ := h
  refine ⟨h2, fun q hq hz => ?_⟩
  obtain ⟨c9, e1, e2, e3, e4⟩ := h6 q _ (Array.getElem?_eq_getElem hq)
  have hs : c9.slots = (s.heap[q]).slots := Array.ext_getElem? fun i => e4 i fun hm => hz _ hm rfl
  have h9 : c9 = s.heap[q] := by
    rw [hs] at e2
    exact e2
  have e5 : U.heap[q]? = some c9 := e1
  rw [e5, h9, Array.getElem?_eq_getElem hq]
/-- the words of a throw but the four that speak of the heap -/
def vx_no (w : Cond) : Bool := decide (w ≠ .isRef (.static Bundle.tN "UNASSIGNED_STACK" Bundle.steD)) && decide (w ≠ .isRef (.static Bundle.tN "SUPPRESSED_SENTINEL" Bundle.listD)) && decide (w ≠ .laysStatic Bundle.tN "UNASSIGNED_STACK" Bundle.steD) && decide (w ≠ .laysStatic Bundle.tN "SUPPRESSED_SENTINEL" Bundle.listD)
def vx_at0 (own : String) (ic : Nat) (X : String) (names : List String) : List Cond := (Bundle.ownAtoms0 own ic X names).filter vx_no
def vx_atS (own : String) (ic : Nat) (X : String) (names : List String) : List Cond := (Bundle.ownAtoms own ic X names).filter vx_no
/-- a word that the tables alone decide, or a good one -/
def vx_ot (w : Cond) : Bool := w.onTables || goodWord w
theorem vx_ot_at {args a' : Array Value} {s U : State} {w : Cond} (hW : s.WarmedH U.vm) (hvm : s.vm = U.vm) (hg : vx_ot w = true) (h : w.before args s = true) : w.before a' U = true := by
  simp only [vx_ot, Bool.or_eq_true] at hg
  rcases hg with hg | hg
  · exact va_tabs hg hvm h
  · exact word_at hW (good_of_word hg) h
/-- a list's words: the good ones out of the method's own list, the others by premises of their own -/
theorem vx_hat {args : Array Value} {s : State} {L B : List Cond} (h1 : ∀ w ∈ L.filter goodWord, w.before args s = true) (h2 : ∀ w ∈ L.filter (fun w => !goodWord w), w ∈ B) (h3 : ∀ w ∈ B, w.before args s = true) : ∀ w ∈ L, w.before args s = true := by
  intro w hw
  by_cases g : goodWord w = true
  · exact h1 w (List.mem_filter.mpr ⟨hw, g⟩)
  · refine h3 w (h2 w (List.mem_filter.mpr ⟨hw, ?_⟩))
    show (!goodWord w) = true
    cases hgw : goodWord w
    · rfl
    · exact absurd hgw g
theorem vx_c {args : Array Value} {s : State} {w : Cond} {B : List Cond} (h : w.before args s = true) (t : ∀ w ∈ B, w.before args s = true) : ∀ w' ∈ w :: B, w'.before args s = true := fun w' h' => (List.mem_cons.mp h').elim (fun e => by rw [e]; exact h) (t w')
theorem vx_n {args : Array Value} {s : State} : ∀ w ∈ ([] : List Cond), w.before args s = true := fun _ h => nomatch h
theorem vx_own {args : Array Value} {s : State} {L : List Cond} (h1 : ∀ w ∈ L.filter vx_no, w.before args s = true)
    (hU : (Cond.isRef (.static Bundle.tN "UNASSIGNED_STACK" Bundle.steD)).before args s = true) (hN : (Cond.isRef (.static Bundle.tN "SUPPRESSED_SENTINEL" Bundle.listD)).before args s = true)
    (lU : (Cond.laysStatic Bundle.tN "UNASSIGNED_STACK" Bundle.steD).before args s = true) (lN : (Cond.laysStatic Bundle.tN "SUPPRESSED_SENTINEL" Bundle.listD).before args s = true) : ∀ w ∈ L, w.before args s = true := by
  intro w hw
  by_cases e1 : w = .isRef (.static Bundle.tN "UNASSIGNED_STACK" Bundle.steD)
  · rw [e1]; exact hU
  · by_cases e2 : w = .isRef (.static Bundle.tN "SUPPRESSED_SENTINEL" Bundle.listD)
    · rw [e2]; exact hN
    · by_cases e3 : w = .laysStatic Bundle.tN "UNASSIGNED_STACK" Bundle.steD
      · rw [e3]; exact lU
      · by_cases e4 : w = .laysStatic Bundle.tN "SUPPRESSED_SENTINEL" Bundle.listD
        · rw [e4]; exact lN
        · exact h1 w (List.mem_filter.mpr ⟨hw, by unfold vx_no; rw [decide_eq_true e1, decide_eq_true e2, decide_eq_true e3, decide_eq_true e4]; rfl⟩)
/-- where a static field lies, its class's statics cell in H -/
def vx_L (C n d : String) (A : Nat → Prop) (U : State) (H : Heap) : Prop := ∃ (c : ClassId) (k : Class) (i : Nat) (f : Field) (a : Nat) (cell : Cell), U.vm.findClass C = some c ∧ U.fieldFound? C n d = some (c, k, i, f) ∧ f.isStatic = true ∧ k.statics = some a ∧ H[a]? = some cell ∧ cell.vm.isStatics = true ∧ cell.cls = c ∧ f.slot < cell.slots.size ∧ k.staticTypes[f.slot]? = some f.type ∧ ¬ A a
theorem vx_L.moved {C n d : String} {A : Nat → Prop} {u U : State} {H : Heap} (hvm : u.vm.Alike U.vm) (h : vx_L C n d A u H) : vx_L C n d A U H := by
  obtain ⟨c, k, i, f, a, cell, h1, h2, h3, h4, h5, h6, h7, h8, h9, h10⟩ := h
  obtain ⟨k', hi', he⟩ := State.fieldFound?_setVm hvm h2
  exact ⟨c, k', i, f, a, cell, by rw [hvm.findClass]; exact h1, hi', h3, by rw [he]; exact h4, h5, h6, h7, h8, by rw [he]; exact h9, h10⟩
theorem vx_L.kept {C n d : String} {A : Nat → Prop} {U : State} {H H1 : Heap} (h : vx_L C n d A U H) (hq : ∀ a : Nat, a < H.size → ¬ A a → H1[a]? = H[a]?) : vx_L C n d A U H1 := by
  obtain ⟨c, k, i, f, a, cell, h1, h2, h3, h4, h5, h6, h7, h8, h9, h10⟩ := h
  exact ⟨c, k, i, f, a, cell, h1, h2, h3, h4, by rw [hq a (Array.getElem?_eq_some_iff.mp h5).1 h10]; exact h5, h6, h7, h8, h9, h10⟩
theorem vx_L.narrow {C n d : String} {A B : Nat → Prop} {U : State} {H : Heap} (h : vx_L C n d A U H) (hAB : ∀ q, B q → A q) : vx_L C n d B U H := by
  obtain ⟨c, k, i, f, a, cell, h1, h2, h3, h4, h5, h6, h7, h8, h9, h10⟩ := h
  exact ⟨c, k, i, f, a, cell, h1, h2, h3, h4, h5, h6, h7, h8, h9, fun z => h10 (hAB _ z)⟩
theorem vx_L.word {C n d : String} {A : Nat → Prop} {s : State} {args : Array Value} (h : vx_L C n d A s s.heap) : (Cond.laysStatic C n d).before args s = true := by
  obtain ⟨c, k, i, f, a, cell, h1, h2, h3, h4, h5, h6, h7, h8, h9, -⟩ := h
  show (Cond.laysStatic C n d).holds args s none s [] = true
  exact Cond.laysStatic_of h1 h2 h3 h4 h5 h6 h7 h8 h9
/-- .. and what it holds: null or some reference -/
def vx_Zq (C n d : String) (A : Nat → Prop) (U : State) (H : Heap) : Prop := va_Zq C n d A U H ∧ vx_L C n d A U H
theorem vx_Zq.moved {C n d : String} {A : Nat → Prop} {u U : State} {H : Heap} (hvm : u.vm.Alike U.vm) (h : vx_Zq C n d A u H) : vx_Zq C n d A U H := ⟨va_Zq.moved hvm h.1, vx_L.moved hvm h.2⟩
theorem vx_Zq.kept {C n d : String} {A : Nat → Prop} {U : State} {H H1 : Heap} (h : vx_Zq C n d A U H) (hq : ∀ a : Nat, a < H.size → ¬ A a → H1[a]? = H[a]?) : vx_Zq C n d A U H1 := ⟨va_Zq.kept h.1 hq, vx_L.kept h.2 hq⟩
theorem vx_Zq.narrow {C n d : String} {A B : Nat → Prop} {U : State} {H : Heap} (h : vx_Zq C n d A U H) (hAB : ∀ q, B q → A q) : vx_Zq C n d B U H := ⟨va_Zq.narrow h.1 hAB, vx_L.narrow h.2 hAB⟩
theorem vx_Zqof {args : Array Value} {s : State} {C n d : String} {A : Nat → Prop} (hl : (Cond.laysStatic C n d).before args s = true) (hini : (Cond.initialized C).before args s = true) (h : (Cond.isRef (.static C n d)).before args s = true) (hA : ∀ a : Nat, a < s.heap.size → ¬ A a) : vx_Zq C n d A s s.heap := by
  refine ⟨va_Zqof hl hini h hA, ?_⟩
  obtain ⟨c, k, i, f, a, cell, h1, h2, h3, h4, h5, h6, h7, h8, h9⟩ := Cond.laysStatic_spec hl
  exact ⟨c, k, i, f, a, cell, h1, h2, h3, h4, h5, h6, h7, h8, h9, hA a (Array.getElem?_eq_some_iff.mp h5).1⟩
theorem vx_isRef {C n d : String} {v : Value} {A : Nat → Prop} {s : State} {args : Array Value} (h : va_Z C n d v A s s.heap) (hv : v.isRef = true) : (Cond.isRef (.static C n d)).before args s = true := by
  obtain ⟨cf, kf, fi, f, a, cell, h1, h2, h3, h4, h5, h6, h7, -⟩ := h
  have he : (Term.static C n d).eval args s none [] s = some v := by
    simp [Term.eval, State.fieldNamed?, h1, h2, h4, h5, h6, h7]
  simp only [Cond.before, Cond.holds, Cond.value, he]
  cases v <;> simp_all [Value.isRef]
theorem vx_isRefq {C n d : String} {A : Nat → Prop} {s : State} {args : Array Value} (h : va_Zq C n d A s s.heap) : (Cond.isRef (.static C n d)).before args s = true := by
  rcases h with h | ⟨t, h⟩
  · exact vx_isRef h rfl
  · exact vx_isRef h rfl
/-- the same frame, seen from here: as if the method were called anew in this heap -/
theorem vx_rebase {T : State} (X : Stand p l e R s m args below meth c T locs cells slots) {R' : Room} (hf : R'.frames ≤ R.frames) (hl : R'.locals ≤ R.locals) (hc : cells + R'.cells ≤ R.cells) (hs : slots + R'.slots ≤ R.slots) :
    Stand p l e R' ((T.setVm s.vm).setFrames (.invoking m args :: below)) m args below meth c T [] 0 0 := by
  have htop : (T.setVm s.vm).topJava?.isSome := X.here.top
  have hF : ((T.setVm s.vm).setFrames (.invoking m args :: below)).frames = .invoking m args :: below := State.frames_setFrames _ (State.cur_lt_of_top htop)
  obtain ⟨g₀, hg0⟩ := Option.isSome_iff_exists.mp htop
  obtain ⟨r, hr⟩ := State.topJava?_eq_some.mp hg0
  have hl9 : e.platform.stackLimits (T.setVm s.vm).me = e.platform.stackLimits s.me := X.limits
  have hb9 : (T.setVm s.vm).me.stackBytes = s.me.stackBytes := X.bytes
  refine ⟨X.admits, X.cas, X.clock, hF, ?_, X.hears, X.method, X.code, X.here, X.tail, X.warmed, ?_, ?_, ?_⟩
  · have h := X.room
    have hU : ((T.setVm s.vm).setFrames (.invoking m args :: below)).localsInUse = s.localsInUse := by
      rw [State.localsInUse_invoking hF (meth := meth) (c := c) X.method X.code, State.localsInUse_invoking X.frames X.method X.code]
    simp only [State.hasRoom, Bool.and_eq_true, decide_eq_true_eq] at h ⊢
    obtain ⟨⟨⟨⟨h1, h2, h3, h4, h5, h6⟩, h7⟩, h8⟩, h9⟩ := h
    rw [X.frames, List.length_cons] at h2 h3
    have q1 := X.heapSize
    have q2 := X.used
    simp only [hF, hU, List.length_cons, State.stackLimits_setFrames, State.stackBytes_setFrames, hl9, hb9]
    refine ⟨⟨⟨⟨by omega, by omega, by omega, by omega, by omega, h6⟩, ?_⟩, ?_⟩, X.book⟩
    · show T.heap.size + R'.cells ≤ e.platform.maxCells
      omega
    · show T.slotsUsed + R'.slots ≤ e.platform.maxSlots
      omega
  · rw [State.stackLimits_setFrames]; rfl
  · rw [State.stackBytes_setFrames]; rfl
  · refine ⟨?_, Nat.le_refl _, Nat.le_refl _, ?_, ?_, fun a c9 h9 => ⟨c9, h9, rfl, rfl, fun _ _ => rfl⟩⟩
    · obtain ⟨t, ht, -⟩ := State.frames_cons hr
      show T.setVm s.vm = { ((T.setVm s.vm).setFrames (.invoking m args :: below)).setFrames (T.setVm s.vm).frames with heap := T.heap, slotsUsed := T.slotsUsed }
      rw [State.setFrames_setFrames, State.setFrames_self ht]
      rfl
    · show T.slotsUsed = T.slotsUsed + ((T.heap.toList.drop T.heap.size).map (·.slots.size)).sum
      rw [List.drop_eq_nil_of_le (Nat.le_of_eq Array.length_toList)]
      rfl
    · show ((T.heap.toList.drop T.heap.size).map (·.slots.size)).sum ≤ 0
      rw [List.drop_eq_nil_of_le (Nat.le_of_eq Array.length_toList)]
      exact Nat.le_refl _
/-- 'throw new E()': new; dup; invokespecial; athrow -/
theorem vx_throw0 {cc : ByteArray} {pc : Nat} (hexec : p.tables.exec = Jvm.exec) (hb : c.code = cc) (hl : l.stackTraces = false) {own cls : String} {names : List String} {ik ic mc ms : Nat} {A : Nat → Prop}
    (hown : s.vm.findClass own = some m.cls) (hcls : Bundle.fit cls = true) (hnames : ∀ n ∈ names, Bundle.fit n = true)
    (hk : (Cond.classLink own ik cls).before args s = true) (hini : (Cond.initialized cls).before args s = true) (hat : ∀ w ∈ vx_at0 own ic cls names, w.before args s = true)
    (hgood : ∀ w ∈ Cond.classLink own ik cls :: Cond.initialized cls :: vx_at0 own ic cls names, vx_ot w = true)
    (hU : vx_Zq Bundle.tN "UNASSIGNED_STACK" Bundle.steD A s s.heap) (hN : vx_Zq Bundle.tN "SUPPRESSED_SENTINEL" Bundle.listD A s s.heap) (hS : va_S A s.heap H locs) (hsize : ls.size = c.maxLocals)
    (d0 : decode cc pc = .ok (.new ik, 3)) (d3 : decode cc (pc + 3) = .ok (.dup, 1)) (d4 : decode cc (pc + 4) = .ok (.invokespecial ic, 3)) (d7 : decode cc (pc + 7) = .ok (.athrow, 1))
    (hout : ∀ x ∈ c.exceptionTable.toList, covers x (pc + 7) = false)
    (hRframes : names.length + 3 < R.frames) (hRlocals : (rest.map fun v => v.category).sum + (13 * (names.length + 1) + 42) ≤ R.locals) (hRcells : cells + 1 ≤ R.cells) (hRslots : slots + 6 ≤ R.slots) (hlocks : meth.locks = false)
    (hx : ∀ t : State, s.vm.Alike t.vm → H.size ≤ t.heap.size → (∀ q : Nat, q < H.size → t.heap[q]? = H[q]?) → XC cls s t)
    (hf : ∀ z ∈ locs, free z.base) (hc : cells + 1 ≤ mc) (hs : slots + 6 ≤ ms) :
    W p l e R s m args below meth c H locs cells slots (vx_MQ below Qc XC args s mc ms free) (F0 m pc ls rest) := by
  intro T hT X
  have htr : e.platform.stackTraces = false := (show e.platform.stackTraces = l.stackTraces by rw [X.admits.platform]).trans hl
  have Y := vx_rebase X (R' := { frames := R.frames, locals := R.locals, cells := 1, slots := 6 }) (Nat.le_refl _) (Nat.le_refl _) hRcells hRslots
  obtain ⟨s', hA⟩ : ∃ z, z = (T.setVm s.vm).setFrames (.invoking m args :: below) := ⟨_, rfl⟩
  rw [← hA] at Y
  have hvm : s'.vm = s.vm := by rw [hA]; rfl
  have hhp : s'.heap = H := by rw [hA]; exact hT
  have hW0 : s.WarmedH s'.vm := by rw [hvm]; exact State.WarmedH.refl s
  have hat' : ∀ w ∈ vx_at0 own ic cls names, w.before args s' = true := fun w hw => vx_ot_at hW0 hvm.symm (hgood w (List.mem_cons_of_mem _ (List.mem_cons_of_mem _ hw))) (hat w hw)
  have hk' : (Cond.classLink own ik cls).before args s' = true := vx_ot_at hW0 hvm.symm (hgood _ List.mem_cons_self) hk
  have hini' : (Cond.initialized cls).before args s' = true := vx_ot_at hW0 hvm.symm (hgood _ (List.mem_cons_of_mem _ List.mem_cons_self)) hini
  have hU' : vx_Zq Bundle.tN "UNASSIGNED_STACK" Bundle.steD A s' s'.heap := by rw [hhp]; exact vx_Zq.moved hW0.alike (hU.kept hS.2.1)
  have hN' : vx_Zq Bundle.tN "SUPPRESSED_SENTINEL" Bundle.listD A s' s'.heap := by rw [hhp]; exact vx_Zq.moved hW0.alike (hN.kept hS.2.1)
  have h : ∀ w ∈ Bundle.ownAtoms0 own ic cls names, w.before args s' = true := vx_own hat' (vx_isRefq hU'.1) (vx_isRefq hN'.1) hU'.2.word hN'.2.word
  have hown' : s'.vm.findClass own = some m.cls := by rw [hvm]; exact hown
  have hins : (Cond.instantiable cls 6).before args s' = true := h _ (by simp [Bundle.ownAtoms0])
  obtain ⟨vm₁, cX, kX, hfX, hkX, -, -, X₁, st1⟩ := Y.newCold hexec (own := own) (C := cls) (index := ik) (n := 6) hown' hk' hins hini'
    (g := F0 m pc ls rest) rfl (by rw [hb]; exact d0) (Nat.le_refl _) (Nat.le_refl _)
  generalize hT1 : (T.setVm vm₁).pushCell { cls := cX, slots := kX.instanceTypes.map defaultValue, vm := .none } = T1 at X₁ st1
  have hcat : (Value.ref T.heap.size).category = 1 := rfl
  have hcellA : T1.heap[T.heap.size]? = some (freshCell cX kX) := by rw [← hT1]; exact State.heap_pushCell_size _ _
  have d3' : decode c.code (pc + 3) = .ok (.dup, 1) := by rw [hb]; exact d3
  obtain ⟨U, hsteps, hrun, hend, hW, hsame, ce, hce, hO⟩ := X₁.ctorThrow0 hexec htr (own := own) (cls := cls) (names := names) (ic := ic) hown' hcls hnames h (fun x hx => nomatch hx) hfX hkX hcellA (by rw [hhp, hT]; exact Nat.le_refl _)
    (g := { method := m, pc := pc + 4, locals := ls, stack := .ref T.heap.size :: .ref T.heap.size :: rest, locked := none }) rfl hsize rfl rfl (rest := rest) rfl
    (by rw [hb]; exact d4) (by rw [hb]; exact d7) hout hRframes (by simp only [List.map_cons, List.sum_cons, hcat]; omega) hlocks
  obtain ⟨f1, f2⟩ := vx_frame hsame
  rw [hhp] at f1 f2
  have hWs : s.WarmedH U.vm := State.WarmedH.trans hW0 hW
  have hcl : s.vm.findClass cls = some ce.cls := by
    have h9 := hO.cls
    rw [hvm] at h9
    exact h9
  have hall : s.sameButNew ({ U with vm := s.vm } : State) locs mc ms := by
    subst hA
    obtain ⟨e1, e2⟩ := hsame
    rw [State.setFrames_setFrames] at e1
    have h2 : (T.setVm s.vm).sameButNew ({ U with vm := s.vm } : State) [] (0 + 1) (0 + 6) := ⟨e1, e2⟩
    have h3 := X.same.trans h2
    rw [List.append_nil] at h3
    exact h3.mono hc hs
  refine ⟨U, ?_, .threw T.heap.size, hrun, hend, Or.inr ⟨T.heap.size, rfl, cls, ce, locs, hx U hWs.alike f1 (fun q hq => f2 q hq (fun z hz => nomatch hz)), hce, hO.vm, hcl, hWs, hall, hf⟩⟩
  refine st1 _ ?_
  show Steps p.tables e below (T1.setTop { method := m, pc := pc + 3, locals := ls, stack := .ref T.heap.size :: rest, locked := none }) _
  jvm_step X₁.here [X₁.here.top, hexec, d3', Value.category]
  exact hsteps
/-- 'throw new E("text")': new; dup; ldc; invokespecial; athrow -/
theorem vx_throwS {cc : ByteArray} {pc : Nat} (hexec : p.tables.exec = Jvm.exec) (hb : c.code = cc) (hl : l.stackTraces = false) {own cls text : String} {names : List String} {ik is ic mc ms sa : Nat} {A : Nat → Prop}
    (hown : s.vm.findClass own = some m.cls) (hcls : Bundle.fit cls = true) (hnames : ∀ n ∈ names, Bundle.fit n = true)
    (hk : (Cond.classLink own ik cls).before args s = true) (hini : (Cond.initialized cls).before args s = true) (hstr : vk_R own is text sa s) (hat : ∀ w ∈ vx_atS own ic cls names, w.before args s = true)
    (hgood : ∀ w ∈ Cond.classLink own ik cls :: Cond.initialized cls :: vx_atS own ic cls names, vx_ot w = true)
    (hU : vx_Zq Bundle.tN "UNASSIGNED_STACK" Bundle.steD A s s.heap) (hN : vx_Zq Bundle.tN "SUPPRESSED_SENTINEL" Bundle.listD A s s.heap) (hS : va_S A s.heap H locs) (hsize : ls.size = c.maxLocals)
    (d0 : decode cc pc = .ok (.new ik, 3)) (d3 : decode cc (pc + 3) = .ok (.dup, 1)) (d4 : decode cc (pc + 4) = .ok (.ldc is, 2)) (d6 : decode cc (pc + 6) = .ok (.invokespecial ic, 3)) (d9 : decode cc (pc + 9) = .ok (.athrow, 1))
    (hout : ∀ x ∈ c.exceptionTable.toList, covers x (pc + 9) = false)
    (hRframes : names.length + 3 < R.frames) (hRlocals : (rest.map fun v => v.category).sum + (13 * (names.length + 1) + 43) ≤ R.locals) (hRcells : cells + 1 ≤ R.cells) (hRslots : slots + 6 ≤ R.slots) (hlocks : meth.locks = false)
    (hx : ∀ t : State, s.vm.Alike t.vm → H.size ≤ t.heap.size → (∀ q : Nat, q < H.size → t.heap[q]? = H[q]?) → XC cls s t)
    (hf : ∀ z ∈ locs, free z.base) (hc : cells + 1 ≤ mc) (hs : slots + 6 ≤ ms) :
    W p l e R s m args below meth c H locs cells slots (vx_MQ below Qc XC args s mc ms free) (F0 m pc ls rest) := by
  intro T hT X
  have htr : e.platform.stackTraces = false := (show e.platform.stackTraces = l.stackTraces by rw [X.admits.platform]).trans hl
  have Y := vx_rebase X (R' := { frames := R.frames, locals := R.locals, cells := 1, slots := 6 }) (Nat.le_refl _) (Nat.le_refl _) hRcells hRslots
  obtain ⟨s', hA⟩ : ∃ z, z = (T.setVm s.vm).setFrames (.invoking m args :: below) := ⟨_, rfl⟩
  rw [← hA] at Y
  have hvm : s'.vm = s.vm := by rw [hA]; rfl
  have hhp : s'.heap = H := by rw [hA]; exact hT
  have hW0 : s.WarmedH s'.vm := by rw [hvm]; exact State.WarmedH.refl s
  have hat' : ∀ w ∈ vx_atS own ic cls names, w.before args s' = true := fun w hw => vx_ot_at hW0 hvm.symm (hgood w (List.mem_cons_of_mem _ (List.mem_cons_of_mem _ hw))) (hat w hw)
  have hk' : (Cond.classLink own ik cls).before args s' = true := vx_ot_at hW0 hvm.symm (hgood _ List.mem_cons_self) hk
  have hini' : (Cond.initialized cls).before args s' = true := vx_ot_at hW0 hvm.symm (hgood _ (List.mem_cons_of_mem _ List.mem_cons_self)) hini
  have hU' : vx_Zq Bundle.tN "UNASSIGNED_STACK" Bundle.steD A s' s'.heap := by rw [hhp]; exact vx_Zq.moved hW0.alike (hU.kept hS.2.1)
  have hN' : vx_Zq Bundle.tN "SUPPRESSED_SENTINEL" Bundle.listD A s' s'.heap := by rw [hhp]; exact vx_Zq.moved hW0.alike (hN.kept hS.2.1)
  have h : ∀ w ∈ Bundle.ownAtoms own ic cls names, w.before args s' = true := vx_own hat' (vx_isRefq hU'.1) (vx_isRefq hN'.1) hU'.2.word hN'.2.word
  have hown' : s'.vm.findClass own = some m.cls := by rw [hvm]; exact hown
  have hins : (Cond.instantiable cls 6).before args s' = true := h _ (by simp [Bundle.ownAtoms])
  obtain ⟨vm₁, cX, kX, hfX, hkX, -, -, X₁, st1⟩ := Y.newCold hexec (own := own) (C := cls) (index := ik) (n := 6) hown' hk' hins hini'
    (g := F0 m pc ls rest) rfl (by rw [hb]; exact d0) (Nat.le_refl _) (Nat.le_refl _)
  generalize hT1 : (T.setVm vm₁).pushCell { cls := cX, slots := kX.instanceTypes.map defaultValue, vm := .none } = T1 at X₁ st1
  have hcat : (Value.ref T.heap.size).category = 1 := rfl
  have hcellA : T1.heap[T.heap.size]? = some (freshCell cX kX) := by rw [← hT1]; exact State.heap_pushCell_size _ _
  have d3' : decode c.code (pc + 3) = .ok (.dup, 1) := by rw [hb]; exact d3
  have d4' : decode c.code (pc + 4) = .ok (.ldc is, 2) := by rw [hb]; exact d4
  have hstr' : vk_R own is text sa s' := vk_R.warm hW0 hstr
  obtain ⟨U, hsteps, hrun, hend, hW, hsame, ce, hce, hO⟩ := X₁.ctorThrowS hexec htr (own := own) (cls := cls) (names := names) (ic := ic) hown' hcls hnames h (fun x hx => nomatch hx) hfX hkX hcellA (by rw [hhp, hT]; exact Nat.le_refl _) (msg := .ref sa) rfl
    (g := { method := m, pc := pc + 6, locals := ls, stack := .ref sa :: .ref T.heap.size :: .ref T.heap.size :: rest, locked := none }) rfl hsize rfl rfl (rest := rest) rfl
    (by rw [hb]; exact d6) (by rw [hb]; exact d9) hout hRframes (by simp only [List.map_cons, List.sum_cons, hcat]; omega) hlocks
  obtain ⟨f1, f2⟩ := vx_frame hsame
  rw [hhp] at f1 f2
  have hWs : s.WarmedH U.vm := State.WarmedH.trans hW0 hW
  have hcl : s.vm.findClass cls = some ce.cls := by
    have h9 := hO.cls
    rw [hvm] at h9
    exact h9
  have hall : s.sameButNew ({ U with vm := s.vm } : State) locs mc ms := by
    subst hA
    obtain ⟨e1, e2⟩ := hsame
    rw [State.setFrames_setFrames] at e1
    have h2 : (T.setVm s.vm).sameButNew ({ U with vm := s.vm } : State) [] (0 + 1) (0 + 6) := ⟨e1, e2⟩
    have h3 := X.same.trans h2
    rw [List.append_nil] at h3
    exact h3.mono hc hs
  refine ⟨U, ?_, .threw T.heap.size, hrun, hend, Or.inr ⟨T.heap.size, rfl, cls, ce, locs, hx U hWs.alike f1 (fun q hq => f2 q hq (fun z hz => nomatch hz)), hce, hO.vm, hcl, hWs, hall, hf⟩⟩
  refine st1 _ ?_
  show Steps p.tables e below (T1.setTop { method := m, pc := pc + 3, locals := ls, stack := .ref T.heap.size :: rest, locked := none }) _
  jvm_step X₁.here [X₁.here.top, hexec, d3', Value.category]
  exact X₁.ldcString hexec (own := own) (text := text) (index := is) (a := sa) hown' hstr'.1 hstr'.2
    (g := { method := m, pc := pc + 4, locals := ls, stack := .ref T.heap.size :: .ref T.heap.size :: rest, locked := none }) rfl d4' _ hsteps
/-- 'throw new E("text")', the text by a wide index -/
theorem vx_throwSW {cc : ByteArray} {pc : Nat} (hexec : p.tables.exec = Jvm.exec) (hb : c.code = cc) (hl : l.stackTraces = false) {own cls text : String} {names : List String} {ik is ic mc ms sa : Nat} {A : Nat → Prop}
    (hown : s.vm.findClass own = some m.cls) (hcls : Bundle.fit cls = true) (hnames : ∀ n ∈ names, Bundle.fit n = true)
    (hk : (Cond.classLink own ik cls).before args s = true) (hini : (Cond.initialized cls).before args s = true) (hstr : vk_R own is text sa s) (hat : ∀ w ∈ vx_atS own ic cls names, w.before args s = true)
    (hgood : ∀ w ∈ Cond.classLink own ik cls :: Cond.initialized cls :: vx_atS own ic cls names, vx_ot w = true)
    (hU : vx_Zq Bundle.tN "UNASSIGNED_STACK" Bundle.steD A s s.heap) (hN : vx_Zq Bundle.tN "SUPPRESSED_SENTINEL" Bundle.listD A s s.heap) (hS : va_S A s.heap H locs) (hsize : ls.size = c.maxLocals)
    (d0 : decode cc pc = .ok (.new ik, 3)) (d3 : decode cc (pc + 3) = .ok (.dup, 1)) (d4 : decode cc (pc + 4) = .ok (.ldc_w is, 3)) (d7 : decode cc (pc + 7) = .ok (.invokespecial ic, 3)) (d10 : decode cc (pc + 10) = .ok (.athrow, 1))
    (hout : ∀ x ∈ c.exceptionTable.toList, covers x (pc + 10) = false)
    (hRframes : names.length + 3 < R.frames) (hRlocals : (rest.map fun v => v.category).sum + (13 * (names.length + 1) + 43) ≤ R.locals) (hRcells : cells + 1 ≤ R.cells) (hRslots : slots + 6 ≤ R.slots) (hlocks : meth.locks = false)
    (hx : ∀ t : State, s.vm.Alike t.vm → H.size ≤ t.heap.size → (∀ q : Nat, q < H.size → t.heap[q]? = H[q]?) → XC cls s t)
    (hf : ∀ z ∈ locs, free z.base) (hc : cells + 1 ≤ mc) (hs : slots + 6 ≤ ms) :
    W p l e R s m args below meth c H locs cells slots (vx_MQ below Qc XC args s mc ms free) (F0 m pc ls rest) := by
  intro T hT X
  have htr : e.platform.stackTraces = false := (show e.platform.stackTraces = l.stackTraces by rw [X.admits.platform]).trans hl
  have Y := vx_rebase X (R' := { frames := R.frames, locals := R.locals, cells := 1, slots := 6 }) (Nat.le_refl _) (Nat.le_refl _) hRcells hRslots
  obtain ⟨s', hA⟩ : ∃ z, z = (T.setVm s.vm).setFrames (.invoking m args :: below) := ⟨_, rfl⟩
  rw [← hA] at Y
  have hvm : s'.vm = s.vm := by rw [hA]; rfl
  have hhp : s'.heap = H := by rw [hA]; exact hT
  have hW0 : s.WarmedH s'.vm := by rw [hvm]; exact State.WarmedH.refl s
  have hat' : ∀ w ∈ vx_atS own ic cls names, w.before args s' = true := fun w hw => vx_ot_at hW0 hvm.symm (hgood w (List.mem_cons_of_mem _ (List.mem_cons_of_mem _ hw))) (hat w hw)
  have hk' : (Cond.classLink own ik cls).before args s' = true := vx_ot_at hW0 hvm.symm (hgood _ List.mem_cons_self) hk
  have hini' : (Cond.initialized cls).before args s' = true := vx_ot_at hW0 hvm.symm (hgood _ (List.mem_cons_of_mem _ List.mem_cons_self)) hini
  have hU' : vx_Zq Bundle.tN "UNASSIGNED_STACK" Bundle.steD A s' s'.heap := by rw [hhp]; exact vx_Zq.moved hW0.alike (hU.kept hS.2.1)
  have hN' : vx_Zq Bundle.tN "SUPPRESSED_SENTINEL" Bundle.listD A s' s'.heap := by rw [hhp]; exact vx_Zq.moved hW0.alike (hN.kept hS.2.1)
  have h : ∀ w ∈ Bundle.ownAtoms own ic cls names, w.before args s' = true := vx_own hat' (vx_isRefq hU'.1) (vx_isRefq hN'.1) hU'.2.word hN'.2.word
  have hown' : s'.vm.findClass own = some m.cls := by rw [hvm]; exact hown
  have hins : (Cond.instantiable cls 6).before args s' = true := h _ (by simp [Bundle.ownAtoms])
  obtain ⟨vm₁, cX, kX, hfX, hkX, -, -, X₁, st1⟩ := Y.newCold hexec (own := own) (C := cls) (index := ik) (n := 6) hown' hk' hins hini'
    (g := F0 m pc ls rest) rfl (by rw [hb]; exact d0) (Nat.le_refl _) (Nat.le_refl _)
  generalize hT1 : (T.setVm vm₁).pushCell { cls := cX, slots := kX.instanceTypes.map defaultValue, vm := .none } = T1 at X₁ st1
  have hcat : (Value.ref T.heap.size).category = 1 := rfl
  have hcellA : T1.heap[T.heap.size]? = some (freshCell cX kX) := by rw [← hT1]; exact State.heap_pushCell_size _ _
  have d3' : decode c.code (pc + 3) = .ok (.dup, 1) := by rw [hb]; exact d3
  have d4' : decode c.code (pc + 4) = .ok (.ldc_w is, 3) := by rw [hb]; exact d4
  have hstr' : vk_R own is text sa s' := vk_R.warm hW0 hstr
  obtain ⟨U, hsteps, hrun, hend, hW, hsame, ce, hce, hO⟩ := X₁.ctorThrowS hexec htr (own := own) (cls := cls) (names := names) (ic := ic) hown' hcls hnames h (fun x hx => nomatch hx) hfX hkX hcellA (by rw [hhp, hT]; exact Nat.le_refl _) (msg := .ref sa) rfl
    (g := { method := m, pc := pc + 7, locals := ls, stack := .ref sa :: .ref T.heap.size :: .ref T.heap.size :: rest, locked := none }) rfl hsize rfl rfl (rest := rest) rfl
    (by rw [hb]; exact d7) (by rw [hb]; exact d10) hout hRframes (by simp only [List.map_cons, List.sum_cons, hcat]; omega) hlocks
  obtain ⟨f1, f2⟩ := vx_frame hsame
  rw [hhp] at f1 f2
  have hWs : s.WarmedH U.vm := State.WarmedH.trans hW0 hW
  have hcl : s.vm.findClass cls = some ce.cls := by
    have h9 := hO.cls
    rw [hvm] at h9
    exact h9
  have hall : s.sameButNew ({ U with vm := s.vm } : State) locs mc ms := by
    subst hA
    obtain ⟨e1, e2⟩ := hsame
    rw [State.setFrames_setFrames] at e1
    have h2 : (T.setVm s.vm).sameButNew ({ U with vm := s.vm } : State) [] (0 + 1) (0 + 6) := ⟨e1, e2⟩
    have h3 := X.same.trans h2
    rw [List.append_nil] at h3
    exact h3.mono hc hs
  refine ⟨U, ?_, .threw T.heap.size, hrun, hend, Or.inr ⟨T.heap.size, rfl, cls, ce, locs, hx U hWs.alike f1 (fun q hq => f2 q hq (fun z hz => nomatch hz)), hce, hO.vm, hcl, hWs, hall, hf⟩⟩
  refine st1 _ ?_
  show Steps p.tables e below (T1.setTop { method := m, pc := pc + 3, locals := ls, stack := .ref T.heap.size :: rest, locked := none }) _
  jvm_step X₁.here [X₁.here.top, hexec, d3', Value.category]
  exact X₁.ldcStringW hexec (own := own) (text := text) (index := is) (a := sa) hown' hstr'.1 hstr'.2
    (g := { method := m, pc := pc + 4, locals := ls, stack := .ref T.heap.size :: .ref T.heap.size :: rest, locked := none }) rfl d4' _ hsteps
end Ends
section Bodies
variable {l : Launch}
theorem vx_ofW {y : MethodName} {ws ws' : List Cond} {rm : Room} {Pc : Array Value → State → Prop} {Qc : Array Value → State → Outcome → State → Prop} {XC : String → State → State → Prop} {mc ms : Nat} {free : Addr → Prop} {cc : ByteArray} {maxL : Nat} {ret : Option FieldType}
    (hy : plainName y.cls = true) (hw : ws = Cond.code y cc maxL ret :: ws')
    (body : ∀ p e s m args below meth c s₁, BodyLoose p l y (headSpec ws rm) cc maxL ret e s m args below meth c s₁ → c.maxLocals = maxL → (∀ x ∈ c.exceptionTable.toList, False) → Pc args s →
      W p l e (headSpec ws rm).room s m args below meth c s.heap [] 0 0 (vx_MQ below Qc XC args s mc ms free) (entryFrame m args maxL)) : vx_Met l y ws rm Pc Qc XC mc ms free := by
  refine MetFree.of_bodyS (code := cc) (maxLocals := maxL) (ret := ret) hy ?_ ?_
  · intro args s m h hn
    obtain ⟨meth, c, h1, h2, h3, h4, h5, h6, -, -⟩ := Cond.code_spec hn (atoms_spec (ws := ws) h _ (by rw [hw]; exact List.mem_cons_self))
    exact ⟨meth, c, h1, h2, h3, h4, h5, h6⟩
  · intro p e s m args below meth c s₁ B hml hP _
    have hh0 : s₁.heap = s.heap := by rw [B.state]; rfl
    have ht : ∀ x ∈ c.exceptionTable.toList, False := by
      obtain ⟨meth9, c9, h1, h2, -, -, -, -, h7, -⟩ := Cond.code_spec B.named (atoms_spec (ws := ws) B.pre _ (by rw [hw]; exact List.mem_cons_self))
      cases Option.some.inj (h1.symm.trans B.method)
      cases Option.some.inj (h2.symm.trans (Stand.of_body B).code)
      intro x hx
      rw [Array.isEmpty_iff.mp h7] at hx
      cases hx
    obtain ⟨t, a1, o, b1, b2, b3⟩ := body p e s m args below meth c s₁ B hml ht hP s₁ hh0 (Stand.of_body B)
    exact ⟨t, o, a1, b1, b2, b3⟩
/-- the table of a body with handlers -/
theorem vx_table {p : Program} {x y : MethodName} {S : Spec} {cc bytes : ByteArray} {maxL maxL' : Nat} {ret ret' : Option FieldType} {e : Env} {s s₁ : State} {m : MethodId} {args : Array Value} {below : List Frame} {meth : Method} {c : Code} {hh : List (Nat × Nat × Nat × Nat)}
    (B : BodyLoose p l y S cc maxL ret e s m args below meth c s₁) (h : (Cond.codeWith y bytes maxL' ret' hh).before args s = true) : c.exceptionTable.toList = tableOf hh := by
  obtain ⟨m9, meth9, c9, hn9, h1, h2, -, -, h6, -⟩ := Cond.codeWith_spec h
  cases Option.some.inj (hn9.symm.trans B.named)
  cases Option.some.inj (h1.symm.trans B.method)
  cases Option.some.inj (h2.symm.trans (Stand.of_body B).code)
  rw [← h6, table_eq]
end Bodies
end VXA
/-! ===== END ===== -/
/-! ===== BEGIN a static call of a method with an exception table ===== -/
section VXS
variable {p : Program} {l : Launch} {e : Env} {R : Room} {s : State} {m : MethodId} {args : Array Value} {below : List Frame} {meth : Method} {c : Code} {T : State} {H : Heap} {locs : List Loc} {cells slots : Nat}
abbrev vx_CSW (R : Room) (s : State) (args : Array Value) (own : String) (index : Nat) (y : MethodName) (bytes : ByteArray) (maxL : Nat) (ret : Option FieldType) (hh : List (Nat × Nat × Nat × Nat)) (ws : List Cond) (rm : Room) (mc ms n : Nat) : Prop :=
  (rm.cells = mc ∧ rm.slots = ms ∧ rm.frames + 1 ≤ R.frames ∧ 8 + (maxL + 11) + rm.locals ≤ R.locals ∧ (∀ w ∈ ws, ∀ (a' : Array Value) (U : State), s.WarmedH U.vm → w.before a' U = true) ∧ Cond.codeWith y bytes maxL ret hh ∈ ws) ∧
  (Cond.codeWith y bytes maxL ret hh).before args s = true ∧ (Cond.initialized y.cls).before args s = true ∧ (y.cls ≠ "java/lang/invoke/MethodHandle" ∧ y.cls ≠ "java/lang/invoke/VarHandle") ∧
  (∀ sig, parseMethodDescriptor y.desc = some sig → n = sig.parameters.length) ∧ (Cond.methodLink own index y).before args s = true ∧ (Cond.static y).before args s = true
theorem vx_cwSW {own : String} {index maxL mc ms : Nat} {y : MethodName} {bytes : ByteArray} {ret : Option FieldType} {hh : List (Nat × Nat × Nat × Nat)} {Ts ws ws' : List Cond} {rm : Room} (n : Nat) (ht : ∀ w ∈ Ts, w.before args s = true) (hT : GoodIn Ts (va_wsS own index y ws)) (hw : ws = Cond.codeWith y bytes maxL ret hh :: ws') (hrc : rm.cells = mc) (hrs : rm.slots = ms)
    (hd : y.cls ≠ "java/lang/invoke/MethodHandle" ∧ y.cls ≠ "java/lang/invoke/VarHandle" ∧ (parseMethodDescriptor y.desc).map (fun d => d.parameters.length) = some n) (hR : rm.frames + 1 ≤ R.frames ∧ 8 + (maxL + 11) + rm.locals ≤ R.locals) :
    vx_CSW R s args own index y bytes maxL ret hh ws rm mc ms n := by
  have ok : ∀ w ∈ va_wsS own index y ws, w.before args s = true := fun w h => ht w (hT w h).1
  have hG : GoodIn Ts ws := fun w h => hT w (by unfold va_wsS; exact List.mem_append_right _ h)
  have hc : Cond.codeWith y bytes maxL ret hh ∈ ws := by rw [hw]; exact List.mem_cons_self
  refine ⟨⟨hrc, hrs, hR.1, hR.2, pay_in ht hG, hc⟩, ht _ (hG _ hc).1, ok _ (by simp [va_wsS]), ⟨hd.1, hd.2.1⟩, fun sig h => ?_, ok _ (by simp [va_wsS]), ok _ (by simp [va_wsS])⟩
  have h2 := hd.2.2
  rw [h] at h2
  exact (Option.some.inj h2).symm
theorem vx_callSW (X : Stand p l e R s m args below meth c T locs cells slots) (hexec : p.tables.exec = Jvm.exec) {own : String} {index : Nat} {y : MethodName} {bytes : ByteArray} {maxL : Nat} {ret : Option FieldType} {hh : List (Nat × Nat × Nat × Nat)}
    (hown : s.vm.findClass own = some m.cls) (hlink : (Cond.methodLink own index y).before args s = true) (hstat : (Cond.static y).before args s = true) (hinit : (Cond.initialized y.cls).before args s = true)
    (hcode : (Cond.codeWith y bytes maxL ret hh).before args s = true) (hy : y.cls ≠ "java/lang/invoke/MethodHandle" ∧ y.cls ≠ "java/lang/invoke/VarHandle")
    {W9 : Nat} {Pre : Pt → Array Value → Prop} {Post : Pt → Array Value → Option Value → Pt → Prop} (hK : Back l R p e below s args y 3 W9 Pre Post)
    {g : JFrame} (hg : g.method = m) (hsize : g.locals.size = c.maxLocals) {argsL rest : List Value} (hlen : ∀ sig, parseMethodDescriptor y.desc = some sig → argsL.length = sig.parameters.length)
    (hstack : g.stack = argsL.reverse ++ rest) (hW : 2 * g.monitorRoom + (rest.map fun v => v.category).sum ≤ W9) (hdg : decode c.code g.pc = .ok (.invokestatic index, 3))
    (hpre : ∀ vm₁, s.WarmedH vm₁ → Pre ⟨T.setVm vm₁, locs, cells, slots⟩ argsL.toArray) :
    ∃ (v : Option Value) (vm₁ : Vm) (B : Pt), s.WarmedH vm₁ ∧ Stand p l e R s m args below meth c B.U B.locs B.cells B.slots ∧ Post ⟨T.setVm vm₁, locs, cells, slots⟩ argsL.toArray v B ∧
      ∀ target, Steps p.tables e below (B.U.setTop { g with pc := g.pc + 3, stack := v.toList ++ rest }) target → Steps p.tables e below (T.setTop g) target := by
  obtain ⟨mk, methM, cM, hnamed, hmethM, -, -, -, -, -, -, hsigM⟩ := Cond.codeWith_spec hcode
  have hstatic : methM.isStatic = true := Cond.static_spec hnamed hmethM hstat
  obtain ⟨kP, hkP, -⟩ := className_of_methodNamed hnamed
  have hinitP : kP.init = .initialized := Cond.initialized_spec (findClass_of_methodNamed hnamed) hkP hinit
  obtain ⟨vm₁, X₁, hstep₁⟩ := X.invokestatic hexec hown hlink hnamed hmethM hstatic hkP hinitP hy (g := g) hg (argsL := argsL) (rest := rest) (hlen _ hsigM) hstack hdg
  obtain ⟨v, B, X', hpost, hsteps⟩ := hK m meth c ⟨T.setVm vm₁, locs, cells, slots⟩ { g with stack := rest } (.invokestatic index) mk argsL.toArray X₁ hg hsize hdg hW (X₁.named hnamed) (hpre vm₁ X₁.warmed)
  exact ⟨v, vm₁, B, X₁.warmed, X', hpost, fun target h => hstep₁ _ fun acts => by rw [doInvoke_state]; exact hsteps.trans h⟩
theorem vx_runSW {y : MethodName} {bytes cc : ByteArray} {maxL nL mc ms n index : Nat} {ret : Option FieldType} {hh : List (Nat × Nat × Nat × Nat)} {ws : List Cond} {rm : Room} {Pc : Array Value → State → Prop} {Qc : Array Value → State → Outcome → State → Prop} {free : Addr → Prop} {Ts : List Cond} {own : String} {As rest : List Value} {g : JFrame}
    (S : CallFix p m c cc nL s args Ts own) (hM : Met l y ws rm Pc Qc mc ms free) (cw : vx_CSW R s args own index y bytes maxL ret hh ws rm mc ms n) (hp : PreS s H Pc As)
    (hg : g.method = m) (hn : As.length = n) (hsize : g.locals.size = nL) (hstack : g.stack = As.reverse ++ rest) (hW : 2 * g.monitorRoom + (rest.map fun v => v.category).sum ≤ 8) (hdg : decode cc g.pc = .ok (.invokestatic index, 3)) (hf : cells + mc ≤ R.cells ∧ slots + ms ≤ R.slots) :
    va_Run p l e R s m args below meth c H locs cells slots mc ms g rest (Qc As.toArray) (free) := by
  obtain ⟨⟨hrc, hrs, hfr, hlo, hws, hcw⟩, hcode, hini, hy, hlen, hl, hstt⟩ := cw
  have hK : Back l R p e below s args y 3 8 (PreOf R mc ms Pc) (PostOf Qc mc ms free) := va_backW (hh := hh) (bytes := bytes) (maxL := maxL) (ret := ret) hM hp.1 hrc hrs hfr hlo hws hcw (fun a' U hW => word_at hW (Or.inl (by first | rfl | simp [Cond.onTables, Cond.keeps, Cond.steady])) hini)
  obtain ⟨hx, hb, hml, ho, -⟩ := S
  intro T hT X
  obtain ⟨v, vm₁, ⟨U', l2, c2, s2⟩, hW₁, X', ⟨g', mk, t, L, e1, e2, hq, h1, hL, h2, h3⟩, st⟩ := vx_callSW X hx (hh := hh) (bytes := bytes) (maxL := maxL) (ret := ret) ho hl hstt hini hcode hy hK hg (hsize.trans hml.symm) (argsL := As) (rest := rest) (fun sig h => hn.trans (hlen sig h)) hstack hW (by rw [hb]; exact hdg)
    (fun vm₁ hW₁ => ⟨hf.1, hf.2, hp.2 (T.setVm vm₁) hT hW₁⟩)
  dsimp only [Pt.U, Pt.locs, Pt.cells, Pt.slots] at X' e1 e2 h1 h2 h3 st
  subst h1; subst h2; subst h3
  exact ⟨v, (T.setVm vm₁).calling g' mk As.toArray, t, U', L, hT, X', hL, e1, e2, hq, st⟩
/-- not caught here, past rows that name other classes: it goes on to the caller -/
theorem vx_outP {p : Program} {l : Launch} {e : Env} {R : Room} {s : State} {m : MethodId} {args : Array Value} {below : List Frame} {meth : Method} {c : Code} {H : Heap} {locs : List Loc} {cells slots : Nat} {free : Addr → Prop} {ls : Array Slot} {rest : List Value} {Qc : Array Value → State → Outcome → State → Prop} {XC : String → State → State → Prop}
    {pc : Nat} {own E : String} {ce : Cell} {q : Addr} {mc ms : Nat} (hown : s.vm.findClass own = some m.cls) (hlocks : meth.locks = false)
    (hpass : ∀ z ∈ c.exceptionTable.toList, covers z pc = false ∨ (z.catchType ≠ 0 ∧ ∃ nm : String, (Cond.classLink own z.catchType nm).before args s = true ∧ va_Nc E nm s)) (hcell : H[q]? = some ce) (hv : ce.vm = .none) (hcl : s.vm.findClass E = some ce.cls)
    (hx : ∀ t : State, t.heap = H → s.vm.Alike t.vm → XC E s t) (hf : ∀ z ∈ locs, free z.base) (hc : cells ≤ mc) (hs : slots ≤ ms) :
    vx_W p l e R s m args below meth c H locs cells slots (vx_MQ below Qc XC args s mc ms free) (F0 m pc ls rest) q := by
  intro T hT X
  have hpl : e.platform.magicAccessors = ({} : Platform).magicAccessors := by rw [X.admits.platform]
  obtain ⟨vm', hW', X', st⟩ := X.outThrough hlocks q (g := F0 m pc ls rest) rfl rfl rfl (cell := ce) (by rw [hT]; exact hcell) (by rw [hv]; rfl)
    (by obtain ⟨k9, h9, -⟩ := Vm.findClass_spec hcl; exact ⟨k9, h9⟩) (fun z hz => by
      rcases hpass z hz with h | ⟨hz0, nm, hl1, hn1⟩
      · exact Or.inl h
      · obtain ⟨c6, hc6, hcl6⟩ := Cond.classLink_spec hown hl1 e.platform hpl
        obtain ⟨a8, b8, h1, h2, h3⟩ := hn1
        cases Option.some.inj (h1.symm.trans hcl)
        cases Option.some.inj (h2.symm.trans hc6)
        exact Or.inr ⟨hz0, _, hcl6, h3⟩)
  obtain ⟨g₀, hfr⟩ := X'.frames_eq
  have hcell9 : ((T.setVm vm').setFrames (.throwing q :: below)).heap[q]? = some ce := by
    show T.heap[q]? = some ce
    rw [hT]; exact hcell
  have hend : Ended ((T.setVm vm').setFrames (.throwing q :: below)) below (.threw q) := State.frames_setFrames _ (State.cur_lt_of_frames hfr)
  refine ⟨(T.setVm vm').setFrames (.throwing q :: below), ?_, .threw q, X'.here.running, hend, Or.inr ⟨q, rfl, E, ce, locs, hx _ hT (X'.ends _).1.alike, hcell9, hv, hcl, (X'.ends _).1, (X'.ends _).2.mono hc hs, hf⟩⟩
  rw [X.pushThrowing_eq]
  exact st
/-- a thing of a world lies in the heap -/
theorem vx_lt {D : va_G} {cl : List vw_C} {ws : va_W} {H1 : Heap} (h : va_P D cl ws H1) {k : Nat} {q : Nat × va_E} (hk : ws[k]? = some q) : q.1 < H1.size := (h k q hk).lt
end VXS
/-! ===== END ===== -/
/-! ===== BEGIN methods with a table of their own: called by a name, returning or throwing ===== -/
section VXH
/-! vx_backW, vx_callVX, vx_callSX, vx_callVW, vx_runVW, vx_runVX, vx_runSX, vx_ofWH follow the same proofs as their sisters above (Free/Laws.lean, Shelf42/LK1.lean); vx_outP calls Shelf42/NT130.lean (outThrough). -/
section
variable {l : Launch} {R : Room} {p : Program} {e : Env} {below : List Frame} {s : State} {sargs : Array Value} {y : MethodName} {len W9 : Nat}
theorem vx_backW {ws : List Cond} {rm : Room} {Pc : Array Value → State → Prop} {Qc : Array Value → State → Outcome → State → Prop} {XC : String → State → State → Prop} {mc ms : Nat} {free : Addr → Prop} {bytes : ByteArray} {maxL : Nat} {ret : Option FieldType} {hh : List (Nat × Nat × Nat × Nat)}
    (hM : vx_Met l y ws rm Pc Qc XC mc ms free) (hblind : FrameBlind Pc) (hrc : rm.cells = mc) (hrs : rm.slots = ms)
    (hframes : rm.frames + 1 ≤ R.frames) (hlocals : W9 + (maxL + 11) + rm.locals ≤ R.locals)
    (hws : ∀ w ∈ ws, ∀ a' U, s.WarmedH U.vm → w.before a' U = true) (hcode : Cond.codeWith y bytes maxL ret hh ∈ ws) (hinit : ∀ a' U, s.WarmedH U.vm → (Cond.initialized y.cls).before a' U = true) :
    vx_Back l R p e below s sargs y len W9 (PreOf R mc ms Pc) (PostOf Qc mc ms free) (vx_Post XC mc ms free) := by
  intro m meth c A g ig mk a X hg hsize hdg hW hn hp
  have h1 : (headSpec ws rm).pre.before a A.U = true := atoms_intro fun w hw => hws w hw _ _ X.warmed
  have h2 : (Cond.codeWith y bytes maxL ret hh).before a A.U = true := hws _ hcode _ _ X.warmed
  have h3 : (Cond.initialized y.cls).before a A.U = true := hinit _ _ X.warmed
  have h4 : A.cells + (headSpec ws rm).room.cells ≤ R.cells := by rw [show (headSpec ws rm).room.cells = mc from hrc]; exact hp.1
  have h5 : A.slots + (headSpec ws rm).room.slots ≤ R.slots := by rw [show (headSpec ws rm).room.slots = ms from hrs]; exact hp.2.1
  have hPc : Pc a (A.U.calling g mk a) := hblind _ _ _ _ hp.2.2
  obtain ⟨U, Ls, c0, s0⟩ := A
  dsimp only [Pt.U, Pt.locs, Pt.cells, Pt.slots] at h1 h2 h3 h4 h5 X hn hPc ⊢
  obtain ⟨m9, methY, cY, hn9, hmY, hcY, -, hlY, -⟩ := Cond.codeWith_spec h2
  cases Option.some.inj (hn9.symm.trans hn)
  obtain ⟨kY, hkY, -⟩ := className_of_methodNamed hn
  have hinitY : kY.init = .initialized := Cond.initialized_spec (findClass_of_methodNamed hn) hkY h3
  have h : At U g.method c below := by rw [hg]; exact X.here
  have hlocals9 : W9 + (maxL + 11) + (headSpec ws rm).room.locals ≤ R.locals := hlocals
  have happ : (headSpec ws rm).appliesLoose y e.platform (U.calling g mk a) = true :=
    Spec.appliesLoose_calling (g := g) h hdg hn hkY hinitY
      (X.room_calling (g := g) (R' := (headSpec ws rm).room) hsize hmY hcY hframes (by rw [hlY]; omega) h4 h5) h1
  obtain ⟨mid, hmid⟩ := h.above
  have hfr : (U.setTop g).frames = (.java g :: mid) ++ below := by rw [State.frames_setTop' g h.top, hmid]; rfl
  obtain ⟨o, s₂, hsteps, -, hend, hq⟩ := Steps.callFree hM p X.admits X.cas X.clock (acts := []) hfr happ hPc trivial
  have hq' : vx_Q Qc XC mc ms free a (U.calling g mk a) o s₂ := hq
  rw [State.frames_setTop' g h.top] at hend
  obtain ⟨g₀, hg0⟩ := Option.isSome_iff_exists.mp h.top
  obtain ⟨r, hr⟩ := State.topJava?_eq_some.mp hg0
  have hr' : (({ U with heap := s₂.heap, slotsUsed := s₂.slotsUsed } : State).setVm s₂.vm).frames = .java g₀ :: r := hr
  rcases hq' with ⟨hqc, L, hfe, hL⟩ | ⟨q, rfl, E, ce, L, hx, hce, hcv, hcl, hW₂, hsm, hL⟩
  · obtain ⟨⟨v, rfl⟩, hW₂, e2, q2, q3, q4, q5, q6⟩ := id hfe
    have e3 : s₂ = ({ (U.calling g mk a).setFrames s₂.frames with heap := s₂.heap, slotsUsed := s₂.slotsUsed } : State).setVm s₂.vm := by
      have : s₂ = ({ s₂ with vm := (U.calling g mk a).vm } : State).setVm s₂.vm := rfl
      rw [e2] at this
      exact this
    obtain ⟨c₂, i₂, len₂, hc₂, hd₂, hf₂⟩ := hend
    have hW' : U.WarmedH s₂.vm := hW₂
    have hcc : c₂ = c := by
      have h1 : s₂.code? g.method = U.code? g.method := by
        rw [State.code?_eq, State.code?_eq, hW'.alike.method?]
      exact Option.some.inj (hc₂.symm.trans (h1.trans h.code))
    subst hcc
    have hlen : len₂ = len := by rw [hdg] at hd₂; cases hd₂; rfl
    subst hlen
    have hs₂ : s₂ = (({ U with heap := s₂.heap, slotsUsed := s₂.slotsUsed } : State).setVm s₂.vm).setTop { g with pc := g.pc + len₂, stack := v.toList ++ g.stack } := by
      refine e3.trans ?_
      rw [hf₂, State.calling_eq h.top, State.setFrames_setFrames, State.setTop_of_frames _ hr', hr]
      rfl
    have hsame : U.sameButNew ({ U with heap := s₂.heap, slotsUsed := s₂.slotsUsed } : State) L mc ms := by
      refine ⟨?_, q2, q3, q4, q5, q6⟩
      obtain ⟨t, ht, -⟩ := State.frames_cons hr
      show ({ U with heap := s₂.heap, slotsUsed := s₂.slotsUsed } : State) = { U.setFrames U.frames with heap := s₂.heap, slotsUsed := s₂.slotsUsed }
      rw [State.setFrames_self ht]
    subst hg
    refine Or.inl ⟨v, ⟨(({ U with heap := s₂.heap, slotsUsed := s₂.slotsUsed } : State).setVm s₂.vm), Ls ++ L, c0 + mc, s0 + ms⟩,
      ⟨X.admits, X.cas, X.clock, X.frames, X.room, X.hears, X.method, X.code, (X.here.setHeapUsed s₂.heap s₂.slotsUsed).setVm hW'.alike, X.tail, State.WarmedH.trans X.warmed hW', X.limits, X.bytes, X.same.trans (hsame.setVm s.vm)⟩,
      ⟨g, mk, s₂, L, rfl, rfl, hqc, rfl, hL, rfl, rfl⟩, ?_⟩
    show Steps p.tables e below _ ((({ U with heap := s₂.heap, slotsUsed := s₂.slotsUsed } : State).setVm s₂.vm).setTop { g with pc := g.pc + len₂, stack := v.toList ++ g.stack })
    rw [← hs₂]
    exact hsteps
  · obtain ⟨e2, q2, q3, q4, q5, q6⟩ := id hsm
    have e3 : s₂ = ({ (U.calling g mk a).setFrames s₂.frames with heap := s₂.heap, slotsUsed := s₂.slotsUsed } : State).setVm s₂.vm := by
      have : s₂ = ({ s₂ with vm := (U.calling g mk a).vm } : State).setVm s₂.vm := rfl
      rw [e2] at this
      exact this
    have hf₂ : s₂.frames = .throwing q :: .java g :: U.frames.tail := hend
    have hW' : U.WarmedH s₂.vm := hW₂
    have hs₂ : s₂ = ((({ U with heap := s₂.heap, slotsUsed := s₂.slotsUsed } : State).setVm s₂.vm).setTop g).pushFrame (.throwing q) := by
      refine e3.trans ?_
      rw [hf₂, State.calling_eq h.top, State.setFrames_setFrames, State.pushFrame, State.frames_setTop _ hr', State.setTop_of_frames _ hr', State.setFrames_setFrames, hr]
      rfl
    have hsame : U.sameButNew ({ U with heap := s₂.heap, slotsUsed := s₂.slotsUsed } : State) L mc ms := by
      refine ⟨?_, q2, q3, q4, q5, q6⟩
      obtain ⟨t, ht, -⟩ := State.frames_cons hr
      show ({ U with heap := s₂.heap, slotsUsed := s₂.slotsUsed } : State) = { U.setFrames U.frames with heap := s₂.heap, slotsUsed := s₂.slotsUsed }
      rw [State.setFrames_self ht]
    subst hg
    refine Or.inr ⟨q, ⟨(({ U with heap := s₂.heap, slotsUsed := s₂.slotsUsed } : State).setVm s₂.vm), Ls ++ L, c0 + mc, s0 + ms⟩,
      ⟨X.admits, X.cas, X.clock, X.frames, X.room, X.hears, X.method, X.code, (X.here.setHeapUsed s₂.heap s₂.slotsUsed).setVm hW'.alike, X.tail, State.WarmedH.trans X.warmed hW', X.limits, X.bytes, X.same.trans (hsame.setVm s.vm)⟩,
      ⟨g, mk, s₂, L, E, ce, rfl, rfl, hx, hce, hcv, hcl, rfl, hL, rfl, rfl⟩, ?_⟩
    show Steps p.tables e below _ (((({ U with heap := s₂.heap, slotsUsed := s₂.slotsUsed } : State).setVm s₂.vm).setTop g).pushFrame (.throwing q))
    rw [← hs₂]
    exact hsteps
end
variable {p : Program} {l : Launch} {e : Env} {R : Room} {s : State} {m : MethodId} {args : Array Value} {below : List Frame} {meth : Method} {c : Code} {T : State} {H : Heap} {locs : List Loc} {cells slots : Nat}
theorem vx_callVX (X : Stand p l e R s m args below meth c T locs cells slots) (hexec : p.tables.exec = Jvm.exec) {own C : String} {index : Nat} {y : MethodName} {bytes : ByteArray} {maxL : Nat} {ret : Option FieldType} {hh : List (Nat × Nat × Nat × Nat)}
    (hown : s.vm.findClass own = some m.cls) (hlink : (Cond.methodLink own index y).before args s = true) (hinst : (Cond.instanceMethod y).before args s = true) (hsel : (Cond.selects C y y).before args s = true)
    (hcode : (Cond.codeWith y bytes maxL ret hh).before args s = true) (hy : y.cls ≠ "java/lang/invoke/MethodHandle" ∧ y.cls ≠ "java/lang/invoke/VarHandle")
    {W9 : Nat} {Pre : Pt → Array Value → Prop} {Post : Pt → Array Value → Option Value → Pt → Prop} {PostX : Pt → Array Value → Addr → Pt → Prop} (hK : vx_Back l R p e below s args y 3 W9 Pre Post PostX)
    {b : Addr} {cellB : Cell} (hcell : T.heap[b]? = some cellB) (hobj : cellB.vm.isStatics = false) (hcls : s.vm.findClass C = some cellB.cls)
    {g : JFrame} (hg : g.method = m) (hsize : g.locals.size = c.maxLocals) {argsL rest : List Value} (hlen : ∀ sig, parseMethodDescriptor y.desc = some sig → argsL.length = sig.parameters.length)
    (hstack : g.stack = argsL.reverse ++ .ref b :: rest) (hW : 2 * g.monitorRoom + (rest.map fun v => v.category).sum ≤ W9) (hdg : decode c.code g.pc = .ok (.invokevirtual index, 3))
    (hpre : ∀ vm₁, s.WarmedH vm₁ → Pre ⟨T.setVm vm₁, locs, cells, slots⟩ (Value.ref b :: argsL).toArray) :
    (∃ (v : Option Value) (vm₁ : Vm) (B : Pt), s.WarmedH vm₁ ∧ Stand p l e R s m args below meth c B.U B.locs B.cells B.slots ∧ Post ⟨T.setVm vm₁, locs, cells, slots⟩ (Value.ref b :: argsL).toArray v B ∧
      ∀ target, Steps p.tables e below (B.U.setTop { g with pc := g.pc + 3, stack := v.toList ++ rest }) target → Steps p.tables e below (T.setTop g) target) ∨
    (∃ (q : Addr) (vm₁ : Vm) (B : Pt), s.WarmedH vm₁ ∧ Stand p l e R s m args below meth c B.U B.locs B.cells B.slots ∧ PostX ⟨T.setVm vm₁, locs, cells, slots⟩ (Value.ref b :: argsL).toArray q B ∧
      Steps p.tables e below (T.setTop g) ((B.U.setTop { g with stack := rest }).pushFrame (.throwing q))) := by
  obtain ⟨mk, methM, hnamed, hmethM, hstM, habM⟩ := Cond.instanceMethod_spec hinst
  obtain ⟨m8, methM', cM, hn8, hmethM', -, -, -, -, -, -, hsigM⟩ := Cond.codeWith_spec hcode
  cases Option.some.inj (hn8.symm.trans hnamed)
  cases hmethM.symm.trans hmethM'
  obtain ⟨c2, r2, m2, q1, q2, q3, q4, kP, hkP, hkPi⟩ := Cond.selects_spec hsel
  cases hcls.symm.trans q1
  cases (State.methodFound?_of_named hnamed hy).symm.trans q2
  cases hnamed.symm.trans q3
  have hselP : selectMethod e.platform s.vm cellB.cls mk = .method mk := by rw [Launch.admits_selectMethod X.admits]; exact q4
  obtain ⟨vm₁, X₁, hstep₁⟩ := X.invokevirtual hexec hown hlink hnamed hmethM hstM hkP hkPi hy (a := b) (cell := cellB) hcell
    (fun z h => by rw [h] at hobj; cases hobj) hselP hmethM habM hkP hkPi (g := g) hg (argsL := argsL) (rest := rest) (hlen _ hsigM) hstack hdg
  rcases hK m meth c ⟨T.setVm vm₁, locs, cells, slots⟩ { g with stack := rest } (.invokevirtual index) mk (Value.ref b :: argsL).toArray X₁ hg hsize hdg hW (X₁.named hnamed) (hpre vm₁ X₁.warmed) with ⟨v, B, X', hpost, hsteps⟩ | ⟨q, B, X', hpost, hsteps⟩
  · exact Or.inl ⟨v, vm₁, B, X₁.warmed, X', hpost, fun target h => hstep₁ _ fun acts => by rw [doInvoke_state]; exact hsteps.trans h⟩
  · exact Or.inr ⟨q, vm₁, B, X₁.warmed, X', hpost, hstep₁ _ fun acts => by rw [doInvoke_state]; exact hsteps⟩
theorem vx_callSX (X : Stand p l e R s m args below meth c T locs cells slots) (hexec : p.tables.exec = Jvm.exec) {own : String} {index : Nat} {y : MethodName} {bytes : ByteArray} {maxL : Nat} {ret : Option FieldType} {hh : List (Nat × Nat × Nat × Nat)}
    (hown : s.vm.findClass own = some m.cls) (hlink : (Cond.methodLink own index y).before args s = true) (hstat : (Cond.static y).before args s = true) (hinit : (Cond.initialized y.cls).before args s = true)
    (hcode : (Cond.codeWith y bytes maxL ret hh).before args s = true) (hy : y.cls ≠ "java/lang/invoke/MethodHandle" ∧ y.cls ≠ "java/lang/invoke/VarHandle")
    {W9 : Nat} {Pre : Pt → Array Value → Prop} {Post : Pt → Array Value → Option Value → Pt → Prop} {PostX : Pt → Array Value → Addr → Pt → Prop} (hK : vx_Back l R p e below s args y 3 W9 Pre Post PostX)
    {g : JFrame} (hg : g.method = m) (hsize : g.locals.size = c.maxLocals) {argsL rest : List Value} (hlen : ∀ sig, parseMethodDescriptor y.desc = some sig → argsL.length = sig.parameters.length)
    (hstack : g.stack = argsL.reverse ++ rest) (hW : 2 * g.monitorRoom + (rest.map fun v => v.category).sum ≤ W9) (hdg : decode c.code g.pc = .ok (.invokestatic index, 3))
    (hpre : ∀ vm₁, s.WarmedH vm₁ → Pre ⟨T.setVm vm₁, locs, cells, slots⟩ argsL.toArray) :
    (∃ (v : Option Value) (vm₁ : Vm) (B : Pt), s.WarmedH vm₁ ∧ Stand p l e R s m args below meth c B.U B.locs B.cells B.slots ∧ Post ⟨T.setVm vm₁, locs, cells, slots⟩ argsL.toArray v B ∧
      ∀ target, Steps p.tables e below (B.U.setTop { g with pc := g.pc + 3, stack := v.toList ++ rest }) target → Steps p.tables e below (T.setTop g) target) ∨
    (∃ (q : Addr) (vm₁ : Vm) (B : Pt), s.WarmedH vm₁ ∧ Stand p l e R s m args below meth c B.U B.locs B.cells B.slots ∧ PostX ⟨T.setVm vm₁, locs, cells, slots⟩ argsL.toArray q B ∧
      Steps p.tables e below (T.setTop g) ((B.U.setTop { g with stack := rest }).pushFrame (.throwing q))) := by
  obtain ⟨mk, methM, cM, hnamed, hmethM, -, -, -, -, -, -, hsigM⟩ := Cond.codeWith_spec hcode
  have hstatic : methM.isStatic = true := Cond.static_spec hnamed hmethM hstat
  obtain ⟨kP, hkP, -⟩ := className_of_methodNamed hnamed
  have hinitP : kP.init = .initialized := Cond.initialized_spec (findClass_of_methodNamed hnamed) hkP hinit
  obtain ⟨vm₁, X₁, hstep₁⟩ := X.invokestatic hexec hown hlink hnamed hmethM hstatic hkP hinitP hy (g := g) hg (argsL := argsL) (rest := rest) (hlen _ hsigM) hstack hdg
  rcases hK m meth c ⟨T.setVm vm₁, locs, cells, slots⟩ { g with stack := rest } (.invokestatic index) mk argsL.toArray X₁ hg hsize hdg hW (X₁.named hnamed) (hpre vm₁ X₁.warmed) with ⟨v, B, X', hpost, hsteps⟩ | ⟨q, B, X', hpost, hsteps⟩
  · exact Or.inl ⟨v, vm₁, B, X₁.warmed, X', hpost, fun target h => hstep₁ _ fun acts => by rw [doInvoke_state]; exact hsteps.trans h⟩
  · exact Or.inr ⟨q, vm₁, B, X₁.warmed, X', hpost, hstep₁ _ fun acts => by rw [doInvoke_state]; exact hsteps⟩
theorem vx_callVW (X : Stand p l e R s m args below meth c T locs cells slots) (hexec : p.tables.exec = Jvm.exec) {own C : String} {index : Nat} {y : MethodName} {bytes : ByteArray} {maxL : Nat} {ret : Option FieldType} {hh : List (Nat × Nat × Nat × Nat)}
    (hown : s.vm.findClass own = some m.cls) (hlink : (Cond.methodLink own index y).before args s = true) (hinst : (Cond.instanceMethod y).before args s = true) (hsel : (Cond.selects C y y).before args s = true)
    (hcode : (Cond.codeWith y bytes maxL ret hh).before args s = true) (hy : y.cls ≠ "java/lang/invoke/MethodHandle" ∧ y.cls ≠ "java/lang/invoke/VarHandle")
    {W9 : Nat} {Pre : Pt → Array Value → Prop} {Post : Pt → Array Value → Option Value → Pt → Prop} (hK : Back l R p e below s args y 3 W9 Pre Post)
    {b : Addr} {cellB : Cell} (hcell : T.heap[b]? = some cellB) (hobj : cellB.vm.isStatics = false) (hcls : s.vm.findClass C = some cellB.cls)
    {g : JFrame} (hg : g.method = m) (hsize : g.locals.size = c.maxLocals) {argsL rest : List Value} (hlen : ∀ sig, parseMethodDescriptor y.desc = some sig → argsL.length = sig.parameters.length)
    (hstack : g.stack = argsL.reverse ++ .ref b :: rest) (hW : 2 * g.monitorRoom + (rest.map fun v => v.category).sum ≤ W9) (hdg : decode c.code g.pc = .ok (.invokevirtual index, 3))
    (hpre : ∀ vm₁, s.WarmedH vm₁ → Pre ⟨T.setVm vm₁, locs, cells, slots⟩ (Value.ref b :: argsL).toArray) :
    ∃ (v : Option Value) (vm₁ : Vm) (B : Pt), s.WarmedH vm₁ ∧ Stand p l e R s m args below meth c B.U B.locs B.cells B.slots ∧ Post ⟨T.setVm vm₁, locs, cells, slots⟩ (Value.ref b :: argsL).toArray v B ∧
      ∀ target, Steps p.tables e below (B.U.setTop { g with pc := g.pc + 3, stack := v.toList ++ rest }) target → Steps p.tables e below (T.setTop g) target := by
  obtain ⟨mk, methM, hnamed, hmethM, hstM, habM⟩ := Cond.instanceMethod_spec hinst
  obtain ⟨m8, methM', cM, hn8, hmethM', -, -, -, -, -, -, hsigM⟩ := Cond.codeWith_spec hcode
  cases Option.some.inj (hn8.symm.trans hnamed)
  cases hmethM.symm.trans hmethM'
  obtain ⟨c2, r2, m2, q1, q2, q3, q4, kP, hkP, hkPi⟩ := Cond.selects_spec hsel
  cases hcls.symm.trans q1
  cases (State.methodFound?_of_named hnamed hy).symm.trans q2
  cases hnamed.symm.trans q3
  have hselP : selectMethod e.platform s.vm cellB.cls mk = .method mk := by rw [Launch.admits_selectMethod X.admits]; exact q4
  obtain ⟨vm₁, X₁, hstep₁⟩ := X.invokevirtual hexec hown hlink hnamed hmethM hstM hkP hkPi hy (a := b) (cell := cellB) hcell
    (fun z h => by rw [h] at hobj; cases hobj) hselP hmethM habM hkP hkPi (g := g) hg (argsL := argsL) (rest := rest) (hlen _ hsigM) hstack hdg
  obtain ⟨v, B, X', hpost, hsteps⟩ := hK m meth c ⟨T.setVm vm₁, locs, cells, slots⟩ { g with stack := rest } (.invokevirtual index) mk (Value.ref b :: argsL).toArray X₁ hg hsize hdg hW (X₁.named hnamed) (hpre vm₁ X₁.warmed)
  exact ⟨v, vm₁, B, X₁.warmed, X', hpost, fun target h => hstep₁ _ fun acts => by rw [doInvoke_state]; exact hsteps.trans h⟩
abbrev vx_CVW (R : Room) (s : State) (args : Array Value) (own C : String) (index : Nat) (y : MethodName) (bytes : ByteArray) (maxL : Nat) (ret : Option FieldType) (hh : List (Nat × Nat × Nat × Nat)) (ws : List Cond) (rm : Room) (mc ms n : Nat) : Prop :=
  (rm.cells = mc ∧ rm.slots = ms ∧ rm.frames + 1 ≤ R.frames ∧ 8 + (maxL + 11) + rm.locals ≤ R.locals ∧ (∀ w ∈ ws, ∀ (a' : Array Value) (U : State), s.WarmedH U.vm → w.before a' U = true) ∧ Cond.codeWith y bytes maxL ret hh ∈ ws) ∧
  (Cond.codeWith y bytes maxL ret hh).before args s = true ∧ (Cond.initialized y.cls).before args s = true ∧ (y.cls ≠ "java/lang/invoke/MethodHandle" ∧ y.cls ≠ "java/lang/invoke/VarHandle") ∧
  (∀ sig, parseMethodDescriptor y.desc = some sig → n = sig.parameters.length) ∧ (Cond.methodLink own index y).before args s = true ∧ (Cond.instanceMethod y).before args s = true ∧ (Cond.selects C y y).before args s = true
theorem vx_cwVW {own C : String} {index maxL mc ms : Nat} {y : MethodName} {bytes : ByteArray} {ret : Option FieldType} {hh : List (Nat × Nat × Nat × Nat)} {Ts ws ws' : List Cond} {rm : Room} (n : Nat) (ht : ∀ w ∈ Ts, w.before args s = true) (hT : GoodIn Ts (wsV own index C y ws)) (hw : ws = Cond.codeWith y bytes maxL ret hh :: ws') (hrc : rm.cells = mc) (hrs : rm.slots = ms)
    (hd : y.cls = C ∧ y.cls ≠ "java/lang/invoke/MethodHandle" ∧ y.cls ≠ "java/lang/invoke/VarHandle" ∧ (parseMethodDescriptor y.desc).map (fun d => d.parameters.length) = some n) (hR : rm.frames + 1 ≤ R.frames ∧ 8 + (maxL + 11) + rm.locals ≤ R.locals) :
    vx_CVW R s args own C index y bytes maxL ret hh ws rm mc ms n := by
  obtain ⟨hC, hd⟩ := hd
  subst hC
  have ok : ∀ w ∈ wsV own index y.cls y ws, w.before args s = true := fun w h => ht w (hT w h).1
  have hG : GoodIn Ts ws := fun w h => hT w (by unfold wsV; exact List.mem_append_right _ h)
  have hc : Cond.codeWith y bytes maxL ret hh ∈ ws := by rw [hw]; exact List.mem_cons_self
  refine ⟨⟨hrc, hrs, hR.1, hR.2, pay_in ht hG, hc⟩, ht _ (hG _ hc).1, ok _ (by simp [wsV]), ⟨hd.1, hd.2.1⟩, fun sig h => ?_, ok _ (by simp [wsV]), ok _ (by simp [wsV]), ok _ (by simp [wsV])⟩
  have h2 := hd.2.2
  rw [h] at h2
  exact (Option.some.inj h2).symm
theorem vx_runVW {y : MethodName} {bytes cc : ByteArray} {maxL nL mc ms n index : Nat} {ret : Option FieldType} {hh : List (Nat × Nat × Nat × Nat)} {ws : List Cond} {rm : Room} {Pc : Array Value → State → Prop} {Qc : Array Value → State → Outcome → State → Prop} {free : Addr → Prop} {Ts : List Cond} {own C : String} {b : Addr} {As rest : List Value} {g : JFrame}
    (S : CallFix p m c cc nL s args Ts own) (hM : Met l y ws rm Pc Qc mc ms free) (cw : vx_CVW R s args own C index y bytes maxL ret hh ws rm mc ms n) (hp : PreV s H C b Pc As)
    (hg : g.method = m) (hn : As.length = n) (hsize : g.locals.size = nL) (hstack : g.stack = As.reverse ++ .ref b :: rest) (hW : 2 * g.monitorRoom + (rest.map fun v => v.category).sum ≤ 8) (hdg : decode cc g.pc = .ok (.invokevirtual index, 3)) (hf : cells + mc ≤ R.cells ∧ slots + ms ≤ R.slots) :
    va_Run p l e R s m args below meth c H locs cells slots mc ms g rest (Qc (Value.ref b :: As).toArray) free := by
  obtain ⟨⟨hrc, hrs, hfr, hlo, hws, hcw⟩, hcode, hini, hy, hlen, hl, hin, hse⟩ := cw
  have hK : Back l R p e below s args y 3 8 (PreOf R mc ms Pc) (PostOf Qc mc ms free) := va_backW (hh := hh) (bytes := bytes) (maxL := maxL) (ret := ret) hM hp.1 hrc hrs hfr hlo hws hcw (fun a' U hW => word_at hW (Or.inl (by first | rfl | simp [Cond.onTables, Cond.keeps, Cond.steady])) hini)
  obtain ⟨hx, hb, hml, ho, -⟩ := S
  obtain ⟨-, ⟨cellB, hcB, hoB, hclB⟩, hPc⟩ := hp
  intro T hT X
  obtain ⟨v, vm₁, ⟨U', l2, c2, s2⟩, hW₁, X', ⟨g', mk, t, L, e1, e2, hq, h1, hL, h2, h3⟩, st⟩ := vx_callVW X hx (C := C) (hh := hh) (bytes := bytes) (maxL := maxL) (ret := ret) ho hl hin hse hcode hy hK (by rw [hT]; exact hcB) hoB hclB hg (hsize.trans hml.symm) (argsL := As) (rest := rest) (fun sig h => hn.trans (hlen sig h)) hstack hW (by rw [hb]; exact hdg)
    (fun vm₁ hW₁ => ⟨hf.1, hf.2, hPc (T.setVm vm₁) hT hW₁⟩)
  dsimp only [Pt.U, Pt.locs, Pt.cells, Pt.slots] at X' e1 e2 h1 h2 h3 st
  subst h1; subst h2; subst h3
  exact ⟨v, (T.setVm vm₁).calling g' mk (Value.ref b :: As).toArray, t, U', L, hT, X', hL, e1, e2, hq, st⟩
section
variable {y : MethodName} {bytes cc : ByteArray} {maxL nL mc ms n index : Nat} {ret : Option FieldType} {ws : List Cond} {rm : Room} {Pc : Array Value → State → Prop} {Qc : Array Value → State → Outcome → State → Prop} {XC : String → State → State → Prop} {free : Addr → Prop} {Ts : List Cond} {own C : String} {b : Addr} {As rest : List Value} {g : JFrame}
theorem vx_runVX {hh : List (Nat × Nat × Nat × Nat)} (S : CallFix p m c cc nL s args Ts own) (hM : vx_Met l y ws rm Pc Qc XC mc ms free) (cw : vx_CVW R s args own C index y bytes maxL ret hh ws rm mc ms n) (hp : PreV s H C b Pc As)
    (hg : g.method = m) (hn : As.length = n) (hsize : g.locals.size = nL) (hstack : g.stack = As.reverse ++ .ref b :: rest) (hW : 2 * g.monitorRoom + (rest.map fun v => v.category).sum ≤ 8) (hdg : decode cc g.pc = .ok (.invokevirtual index, 3)) (hf : cells + mc ≤ R.cells ∧ slots + ms ≤ R.slots) :
    vx_Run p l e R s m args below meth c H locs cells slots mc ms g rest (Qc (Value.ref b :: As).toArray) XC free := by
  obtain ⟨⟨hrc, hrs, hfr, hlo, hws, hcw⟩, hcode, hini, hy, hlen, hl, hin, hse⟩ := cw
  have hK : vx_Back l R p e below s args y 3 8 (PreOf R mc ms Pc) (PostOf Qc mc ms free) (vx_Post XC mc ms free) := vx_backW (hh := hh) (bytes := bytes) (maxL := maxL) (ret := ret) hM hp.1 hrc hrs hfr hlo hws hcw (fun a' U hW => word_at hW (Or.inl (by first | rfl | simp [Cond.onTables, Cond.keeps, Cond.steady])) hini)
  obtain ⟨hx, hb, hml, ho, -⟩ := S
  obtain ⟨-, ⟨cellB, hcB, hoB, hclB⟩, hPc⟩ := hp
  intro T hT X
  rcases vx_callVX X hx (C := C) (hh := hh) (bytes := bytes) (maxL := maxL) (ret := ret) ho hl hin hse hcode hy hK (by rw [hT]; exact hcB) hoB hclB hg (hsize.trans hml.symm) (argsL := As) (rest := rest) (fun sig h => hn.trans (hlen sig h)) hstack hW (by rw [hb]; exact hdg)
    (fun vm₁ hW₁ => ⟨hf.1, hf.2, hPc (T.setVm vm₁) hT hW₁⟩) with ⟨v, vm₁, ⟨U', l2, c2, s2⟩, hW₁, X', ⟨g', mk, t, L, e1, e2, hq, h1, hL, h2, h3⟩, st⟩ | ⟨q, vm₁, ⟨U', l2, c2, s2⟩, hW₁, X', ⟨g', mk, t, L, E, ce, e1, e2, hq, hce, hcv, hcl, h1, hL, h2, h3⟩, st⟩
  · dsimp only [Pt.U, Pt.locs, Pt.cells, Pt.slots] at X' e1 e2 h1 h2 h3 st
    subst h1; subst h2; subst h3
    exact Or.inl ⟨v, (T.setVm vm₁).calling g' mk (Value.ref b :: As).toArray, t, U', L, hT, X', hL, e1, e2, hq, st⟩
  · dsimp only [Pt.U, Pt.locs, Pt.cells, Pt.slots] at X' e1 e2 h1 h2 h3 st hcl
    subst h1; subst h2; subst h3
    exact Or.inr ⟨q, (T.setVm vm₁).calling g' mk (Value.ref b :: As).toArray, t, U', L, E, ce, hT, X', hL, e1, e2, hq, hce, hcv, vx_cls hW₁ hcl, st⟩
theorem vx_runSX {hh : List (Nat × Nat × Nat × Nat)} (S : CallFix p m c cc nL s args Ts own) (hM : vx_Met l y ws rm Pc Qc XC mc ms free) (cw : vx_CSW R s args own index y bytes maxL ret hh ws rm mc ms n) (hp : PreS s H Pc As)
    (hg : g.method = m) (hn : As.length = n) (hsize : g.locals.size = nL) (hstack : g.stack = As.reverse ++ rest) (hW : 2 * g.monitorRoom + (rest.map fun v => v.category).sum ≤ 8) (hdg : decode cc g.pc = .ok (.invokestatic index, 3)) (hf : cells + mc ≤ R.cells ∧ slots + ms ≤ R.slots) :
    vx_Run p l e R s m args below meth c H locs cells slots mc ms g rest (Qc As.toArray) XC free := by
  obtain ⟨⟨hrc, hrs, hfr, hlo, hws, hcw⟩, hcode, hini, hy, hlen, hl, hstt⟩ := cw
  have hK : vx_Back l R p e below s args y 3 8 (PreOf R mc ms Pc) (PostOf Qc mc ms free) (vx_Post XC mc ms free) := vx_backW (hh := hh) (bytes := bytes) (maxL := maxL) (ret := ret) hM hp.1 hrc hrs hfr hlo hws hcw (fun a' U hW => word_at hW (Or.inl (by first | rfl | simp [Cond.onTables, Cond.keeps, Cond.steady])) hini)
  obtain ⟨hx, hb, hml, ho, -⟩ := S
  intro T hT X
  rcases vx_callSX X hx (hh := hh) (bytes := bytes) (maxL := maxL) (ret := ret) ho hl hstt hini hcode hy hK hg (hsize.trans hml.symm) (argsL := As) (rest := rest) (fun sig h => hn.trans (hlen sig h)) hstack hW (by rw [hb]; exact hdg)
    (fun vm₁ hW₁ => ⟨hf.1, hf.2, hp.2 (T.setVm vm₁) hT hW₁⟩) with ⟨v, vm₁, ⟨U', l2, c2, s2⟩, hW₁, X', ⟨g', mk, t, L, e1, e2, hq, h1, hL, h2, h3⟩, st⟩ | ⟨q, vm₁, ⟨U', l2, c2, s2⟩, hW₁, X', ⟨g', mk, t, L, E, ce, e1, e2, hq, hce, hcv, hcl, h1, hL, h2, h3⟩, st⟩
  · dsimp only [Pt.U, Pt.locs, Pt.cells, Pt.slots] at X' e1 e2 h1 h2 h3 st
    subst h1; subst h2; subst h3
    exact Or.inl ⟨v, (T.setVm vm₁).calling g' mk As.toArray, t, U', L, hT, X', hL, e1, e2, hq, st⟩
  · dsimp only [Pt.U, Pt.locs, Pt.cells, Pt.slots] at X' e1 e2 h1 h2 h3 st hcl
    subst h1; subst h2; subst h3
    exact Or.inr ⟨q, (T.setVm vm₁).calling g' mk As.toArray, t, U', L, E, ce, hT, X', hL, e1, e2, hq, hce, hcv, vx_cls hW₁ hcl, st⟩
end
end VXH
theorem vx_ofWH {l : Launch} {y : MethodName} {ws ws' : List Cond} {rm : Room} {Pc : Array Value → State → Prop} {Qc : Array Value → State → Outcome → State → Prop} {XC : String → State → State → Prop} {mc ms : Nat} {free : Addr → Prop} {cc : ByteArray} {maxL : Nat} {ret : Option FieldType} {hh : List (Nat × Nat × Nat × Nat)}
    (hy : plainName y.cls = true) (hw : ws = Cond.codeWith y cc maxL ret hh :: ws')
    (body : ∀ p e s m args below meth c s₁, BodyLoose p l y (headSpec ws rm) cc maxL ret e s m args below meth c s₁ → c.maxLocals = maxL → Pc args s →
      W p l e (headSpec ws rm).room s m args below meth c s.heap [] 0 0 (vx_MQ below Qc XC args s mc ms free) (entryFrame m args maxL)) : vx_Met l y ws rm Pc Qc XC mc ms free := by
  refine MetFree.of_bodyS (code := cc) (maxLocals := maxL) (ret := ret) hy ?_ ?_
  · intro args s m h hn
    obtain ⟨m9, meth, c, hn9, h1, h2, h3, h4, -, h5, h6, -⟩ := Cond.codeWith_spec (atoms_spec (ws := ws) h _ (by rw [hw]; exact List.mem_cons_self))
    cases hn.symm.trans hn9
    exact ⟨meth, c, h1, h2, h3, h4, h5, h6⟩
  · intro p e s m args below meth c s₁ B hml hP _
    have hh0 : s₁.heap = s.heap := by rw [B.state]; rfl
    obtain ⟨t, a1, o, b1, b2, b3⟩ := body p e s m args below meth c s₁ B hml hP s₁ hh0 (Stand.of_body B)
    exact ⟨t, o, a1, b1, b2, b3⟩
/-! ===== END ===== -/
end
section
def RX0 : String := "PageRows$Entries"
def RX1 : String := "PageRows$Entry"
def RX2 : String := "PageRows$Memory"
def RX3 : String := "PageRows$Path"
def RX4 : String := "PageRows"
def RX5 : String := "PageRowsModel"
def RL : String := "PageRowsLaw"
def TX0 : u_T := fun k => match k with
  | 0 => ("PageRows$Entries", "rows", "[LPageRows$Entry;", true)
  | 1 => ("PageRows$Entries", "size", "I", false)
  | _ => ("PageRows$Entries", "crowdedOut", "I", false)
def tyX0 : Nat → FieldType := fun k => match k with
  | 0 => .array (.object "PageRows$Entry")
  | 1 => .int
  | _ => .int
theorem nmX0 : ∀ a, a < 3 → ∀ b, b < 3 → a ≠ b → (TX0 a).2.1 ≠ (TX0 b).2.1 := by decide +kernel
theorem tyX0_ok : ∀ k, k < 3 → parseFieldDescriptor (TX0 k).2.2.1 = some (tyX0 k) := by decide +kernel
def TX1 : u_T := fun k => match k with
  | 0 => ("PageRows$Entry", "context", "I", false)
  | 1 => ("PageRows$Entry", "largeness", "I", false)
  | 2 => ("PageRows$Entry", "bits", "I", false)
  | 3 => ("PageRows$Entry", "frame", "I", false)
  | 4 => ("PageRows$Entry", "rights", "I", false)
  | _ => ("PageRows$Entry", "changed", "Z", false)
def tyX1 : Nat → FieldType := fun k => match k with
  | 0 => .int
  | 1 => .int
  | 2 => .int
  | 3 => .int
  | 4 => .int
  | _ => .boolean
theorem nmX1 : ∀ a, a < 6 → ∀ b, b < 6 → a ≠ b → (TX1 a).2.1 ≠ (TX1 b).2.1 := by decide +kernel
theorem tyX1_ok : ∀ k, k < 6 → parseFieldDescriptor (TX1 k).2.2.1 = some (tyX1 k) := by decide +kernel
def TX2 : u_T := fun k => match k with
  | 0 => ("PageRows$Memory", "words", "[J", true)
  | 1 => ("PageRows$Memory", "hosts", "[I", true)
  | _ => ("PageRows$Memory", "hostsOn", "Z", false)
def tyX2 : Nat → FieldType := fun k => match k with
  | 0 => .array .long
  | 1 => .array .int
  | _ => .boolean
theorem nmX2 : ∀ a, a < 3 → ∀ b, b < 3 → a ≠ b → (TX2 a).2.1 ≠ (TX2 b).2.1 := by decide +kernel
theorem tyX2_ok : ∀ k, k < 3 → parseFieldDescriptor (TX2 k).2.2.1 = some (tyX2 k) := by decide +kernel
def TX3 : u_T := fun k => match k with
  | 0 => ("PageRows$Path", "memory", "LPageRows$Memory;", true)
  | 1 => ("PageRows$Path", "levels", "I", true)
  | 2 => ("PageRows$Path", "wordsPassed", "[I", true)
  | 3 => ("PageRows$Path", "reads", "I", false)
  | 4 => ("PageRows$Path", "leaf", "J", false)
  | 5 => ("PageRows$Path", "largeness", "I", false)
  | 6 => ("PageRows$Path", "faultLevel", "I", false)
  | _ => ("PageRows$Path", "reached", "I", false)
def tyX3 : Nat → FieldType := fun k => match k with
  | 0 => .object "PageRows$Memory"
  | 1 => .int
  | 2 => .array .int
  | 3 => .int
  | 4 => .long
  | 5 => .int
  | 6 => .int
  | _ => .int
theorem nmX3 : ∀ a, a < 8 → ∀ b, b < 8 → a ≠ b → (TX3 a).2.1 ≠ (TX3 b).2.1 := by decide +kernel
theorem tyX3_ok : ∀ k, k < 8 → parseFieldDescriptor (TX3 k).2.2.1 = some (tyX3 k) := by decide +kernel
def TX4 : u_T := fun k => match k with
  | 0 => ("PageRows", "levels", "I", true)
  | 1 => ("PageRows", "memory", "LPageRows$Memory;", true)
  | 2 => ("PageRows", "path", "LPageRows$Path;", true)
  | 3 => ("PageRows", "entries", "LPageRows$Entries;", true)
  | 4 => ("PageRows", "roots", "[I", true)
  | 5 => ("PageRows", "context", "I", false)
  | 6 => ("PageRows", "latestTo", "I", false)
  | 7 => ("PageRows", "latestLevel", "I", false)
  | 8 => ("PageRows", "wordsRead", "I", false)
  | 9 => ("PageRows", "byEntries", "I", false)
  | 10 => ("PageRows", "byWalks", "I", false)
  | _ => ("PageRows", "faults", "I", false)
def tyX4 : Nat → FieldType := fun k => match k with
  | 0 => .int
  | 1 => .object "PageRows$Memory"
  | 2 => .object "PageRows$Path"
  | 3 => .object "PageRows$Entries"
  | 4 => .array .int
  | 5 => .int
  | 6 => .int
  | 7 => .int
  | 8 => .int
  | 9 => .int
  | 10 => .int
  | _ => .int
theorem nmX4 : ∀ a, a < 12 → ∀ b, b < 12 → a ≠ b → (TX4 a).2.1 ≠ (TX4 b).2.1 := by decide +kernel
theorem tyX4_ok : ∀ k, k < 12 → parseFieldDescriptor (TX4 k).2.2.1 = some (tyX4 k) := by decide +kernel
def TX5 : u_T := fun k => match k with
  | 0 => ("PageRowsModel", "thrown", "I", false)
  | 1 => ("PageRowsModel", "levels", "I", true)
  | 2 => ("PageRowsModel", "room", "I", true)
  | 3 => ("PageRowsModel", "memory", "[J", true)
  | 4 => ("PageRowsModel", "context", "I", false)
  | 5 => ("PageRowsModel", "roots", "[I", true)
  | 6 => ("PageRowsModel", "hostOf", "[I", true)
  | 7 => ("PageRowsModel", "isHosted", "Z", false)
  | 8 => ("PageRowsModel", "entries", "I", false)
  | 9 => ("PageRowsModel", "uses", "I", false)
  | 10 => ("PageRowsModel", "entryContext", "[I", true)
  | 11 => ("PageRowsModel", "entryLarge", "[I", true)
  | 12 => ("PageRowsModel", "entryBits", "[I", true)
  | 13 => ("PageRowsModel", "entryFrame", "[I", true)
  | 14 => ("PageRowsModel", "entryRights", "[I", true)
  | 15 => ("PageRowsModel", "entryUse", "[I", true)
  | 16 => ("PageRowsModel", "entryChanged", "[Z", true)
  | 17 => ("PageRowsModel", "to", "I", false)
  | 18 => ("PageRowsModel", "faultLevel", "I", false)
  | 19 => ("PageRowsModel", "read", "I", false)
  | 20 => ("PageRowsModel", "byEntries", "I", false)
  | 21 => ("PageRowsModel", "byWalks", "I", false)
  | 22 => ("PageRowsModel", "faults", "I", false)
  | 23 => ("PageRowsModel", "gone", "I", false)
  | 24 => ("PageRowsModel", "fault", "I", false)
  | 25 => ("PageRowsModel", "atLevel", "I", false)
  | 26 => ("PageRowsModel", "many", "I", false)
  | 27 => ("PageRowsModel", "large", "I", false)
  | 28 => ("PageRowsModel", "came", "I", false)
  | _ => ("PageRowsModel", "wordAt", "[I", true)
def tyX5 : Nat → FieldType := fun k => match k with
  | 0 => .int
  | 1 => .int
  | 2 => .int
  | 3 => .array .long
  | 4 => .int
  | 5 => .array .int
  | 6 => .array .int
  | 7 => .boolean
  | 8 => .int
  | 9 => .int
  | 10 => .array .int
  | 11 => .array .int
  | 12 => .array .int
  | 13 => .array .int
  | 14 => .array .int
  | 15 => .array .int
  | 16 => .array .boolean
  | 17 => .int
  | 18 => .int
  | 19 => .int
  | 20 => .int
  | 21 => .int
  | 22 => .int
  | 23 => .int
  | 24 => .int
  | 25 => .int
  | 26 => .int
  | 27 => .int
  | 28 => .int
  | _ => .array .int
theorem nmX5 : ∀ a, a < 30 → ∀ b, b < 30 → a ≠ b → (TX5 a).2.1 ≠ (TX5 b).2.1 := by decide +kernel
theorem tyX5_ok : ∀ k, k < 30 → parseFieldDescriptor (TX5 k).2.2.1 = some (tyX5 k) := by decide +kernel
abbrev vwCl : List vw_C := [(RX0, TX0, 3), (RX1, TX1, 6), (RX2, TX2, 3), (RX3, TX3, 8), (RX4, TX4, 12), (RX5, TX5, 30)]
abbrev cX4_init : ByteArray := prog_1_method_1_code
def yX4_init : MethodName := ⟨RX4, "<init>", "(II)V"⟩
abbrev wX4_init : Cond := .code yX4_init cX4_init 4 none
abbrev cX4_table : ByteArray := prog_1_method_2_code
def yX4_table : MethodName := ⟨RX4, "table", "(IJ)J"⟩
abbrev wX4_table : Cond := .code yX4_table cX4_table 6 (some .long)
abbrev cX4_word : ByteArray := prog_1_method_3_code
def yX4_word : MethodName := ⟨RX4, "word", "(I)J"⟩
abbrev wX4_word : Cond := .code yX4_word cX4_word 2 (some .long)
abbrev cX4_context : ByteArray := prog_1_method_4_code
def yX4_context : MethodName := ⟨RX4, "context", "(I)I"⟩
abbrev wX4_context : Cond := .code yX4_context cX4_context 3 (some .int)
abbrev cX4_root : ByteArray := prog_1_method_5_code
def yX4_root : MethodName := ⟨RX4, "root", "(II)I"⟩
abbrev wX4_root : Cond := .code yX4_root cX4_root 4 (some .int)
abbrev cX4_host : ByteArray := prog_1_method_6_code
def yX4_host : MethodName := ⟨RX4, "host", "(II)I"⟩
abbrev wX4_host : Cond := .code yX4_host cX4_host 4 (some .int)
abbrev cX4_hosts : ByteArray := prog_1_method_7_code
def yX4_hosts : MethodName := ⟨RX4, "hosts", "(Z)Z"⟩
abbrev wX4_hosts : Cond := .code yX4_hosts cX4_hosts 3 (some .boolean)
abbrev cX4_walk : ByteArray := prog_1_method_8_code
def yX4_walk : MethodName := ⟨RX4, "walk", "(II)I"⟩
abbrev wX4_walk : Cond := .code yX4_walk cX4_walk 4 (some .int)
abbrev cX4_to : ByteArray := prog_1_method_9_code
def yX4_to : MethodName := ⟨RX4, "to", "()I"⟩
abbrev wX4_to : Cond := .code yX4_to cX4_to 1 (some .int)
abbrev cX4_level : ByteArray := prog_1_method_10_code
def yX4_level : MethodName := ⟨RX4, "level", "()I"⟩
abbrev wX4_level : Cond := .code yX4_level cX4_level 1 (some .int)
abbrev cX4_plain : ByteArray := prog_1_method_11_code
def yX4_plain : MethodName := ⟨RX4, "plain", "(II)I"⟩
abbrev wX4_plain : Cond := .code yX4_plain cX4_plain 4 (some .int)
abbrev cX4_flush : ByteArray := prog_1_method_12_code
def yX4_flush : MethodName := ⟨RX4, "flush", "(II)I"⟩
abbrev wX4_flush : Cond := .code yX4_flush cX4_flush 3 (some .int)
abbrev cX4_kept : ByteArray := prog_1_method_13_code
def yX4_kept : MethodName := ⟨RX4, "kept", "(II)I"⟩
abbrev wX4_kept : Cond := .code yX4_kept cX4_kept 3 (some .int)
abbrev cX4_stale : ByteArray := prog_1_method_14_code
def yX4_stale : MethodName := ⟨RX4, "stale", "(I)I"⟩
abbrev wX4_stale : Cond := .code yX4_stale cX4_stale 5 (some .int)
abbrev cX4_count : ByteArray := prog_1_method_15_code
def yX4_count : MethodName := ⟨RX4, "count", "(I)I"⟩
abbrev wX4_count : Cond := .code yX4_count cX4_count 2 (some .int)
abbrev cX4_translateByTables : ByteArray := prog_1_method_16_code
def yX4_translateByTables : MethodName := ⟨RX4, "translateByTables", "(II)I"⟩
abbrev wX4_translateByTables : Cond := .code yX4_translateByTables cX4_translateByTables 4 (some .int)
abbrev cX4_translateByEntry : ByteArray := prog_1_method_17_code
def yX4_translateByEntry : MethodName := ⟨RX4, "translateByEntry", "(III)I"⟩
abbrev wX4_translateByEntry : Cond := .code yX4_translateByEntry cX4_translateByEntry 6 (some .int)
abbrev cX4_finish : ByteArray := prog_1_method_18_code
def yX4_finish : MethodName := ⟨RX4, "finish", "(III)I"⟩
abbrev wX4_finish : Cond := .code yX4_finish cX4_finish 4 (some .int)
abbrev cX4_isStale : ByteArray := prog_1_method_19_code
def yX4_isStale : MethodName := ⟨RX4, "isStale", "(LPageRows$Entry;I)Z"⟩
abbrev wX4_isStale : Cond := .code yX4_isStale cX4_isStale 5 (some .boolean)
abbrev cX4_needsChangedMark : ByteArray := prog_1_method_20_code
def yX4_needsChangedMark : MethodName := ⟨RX4, "needsChangedMark", "(LPageRows$Entry;I)Z"⟩
abbrev wX4_needsChangedMark : Cond := .code yX4_needsChangedMark cX4_needsChangedMark 2 (some .boolean)
abbrev cX4_isKind : ByteArray := prog_1_method_21_code
def yX4_isKind : MethodName := ⟨RX4, "isKind", "(I)Z"⟩
abbrev wX4_isKind : Cond := .code yX4_isKind cX4_isKind 1 (some .boolean)
abbrev cX4_isWrite : ByteArray := prog_1_method_22_code
def yX4_isWrite : MethodName := ⟨RX4, "isWrite", "(I)Z"⟩
abbrev wX4_isWrite : Cond := .code yX4_isWrite cX4_isWrite 1 (some .boolean)
abbrev cX4_allows : ByteArray := prog_1_method_23_code
def yX4_allows : MethodName := ⟨RX4, "allows", "(II)Z"⟩
abbrev wX4_allows : Cond := .code yX4_allows cX4_allows 4 (some .boolean)
abbrev cX4_bitsBelow : ByteArray := prog_1_method_24_code
def yX4_bitsBelow : MethodName := ⟨RX4, "bitsBelow", "(I)I"⟩
abbrev wX4_bitsBelow : Cond := .code yX4_bitsBelow cX4_bitsBelow 1 (some .int)
abbrev cX4_frameOf : ByteArray := prog_1_method_25_code
def yX4_frameOf : MethodName := ⟨RX4, "frameOf", "(J)I"⟩
abbrev wX4_frameOf : Cond := .code yX4_frameOf cX4_frameOf 2 (some .int)
abbrev cX4_rightsOf : ByteArray := prog_1_method_26_code
def yX4_rightsOf : MethodName := ⟨RX4, "rightsOf", "(J)I"⟩
abbrev wX4_rightsOf : Cond := .code yX4_rightsOf cX4_rightsOf 2 (some .int)
abbrev cX5_init : ByteArray := prog_7_method_1_code
def yX5_init : MethodName := ⟨RX5, "<init>", "(II)V"⟩
abbrev wX5_init : Cond := .code yX5_init cX5_init 4 none
abbrev cX5_thrown : ByteArray := prog_7_method_2_code
def yX5_thrown : MethodName := ⟨RX5, "thrown", "()I"⟩
abbrev wX5_thrown : Cond := .code yX5_thrown cX5_thrown 1 (some .int)
abbrev cX5_throwing : ByteArray := prog_7_method_3_code
def yX5_throwing : MethodName := ⟨RX5, "throwing", "(ZZ)Z"⟩
abbrev wX5_throwing : Cond := .code yX5_throwing cX5_throwing 3 (some .boolean)
abbrev cX5_isOf : ByteArray := prog_7_method_4_code
def yX5_isOf : MethodName := ⟨RX5, "isOf", "(II)Z"⟩
abbrev wX5_isOf : Cond := .code yX5_isOf cX5_isOf 2 (some .boolean)
abbrev cX5_table : ByteArray := prog_7_method_5_code
def yX5_table : MethodName := ⟨RX5, "table", "(IJ)J"⟩
abbrev wX5_table : Cond := .code yX5_table cX5_table 6 (some .long)
abbrev cX5_word : ByteArray := prog_7_method_6_code
def yX5_word : MethodName := ⟨RX5, "word", "(I)J"⟩
abbrev wX5_word : Cond := .code yX5_word cX5_word 2 (some .long)
abbrev cX5_context : ByteArray := prog_7_method_7_code
def yX5_context : MethodName := ⟨RX5, "context", "(I)I"⟩
abbrev wX5_context : Cond := .code yX5_context cX5_context 3 (some .int)
abbrev cX5_root : ByteArray := prog_7_method_8_code
def yX5_root : MethodName := ⟨RX5, "root", "(II)I"⟩
abbrev wX5_root : Cond := .code yX5_root cX5_root 4 (some .int)
abbrev cX5_host : ByteArray := prog_7_method_9_code
def yX5_host : MethodName := ⟨RX5, "host", "(II)I"⟩
abbrev wX5_host : Cond := .code yX5_host cX5_host 4 (some .int)
abbrev cX5_hosts : ByteArray := prog_7_method_10_code
def yX5_hosts : MethodName := ⟨RX5, "hosts", "(Z)Z"⟩
abbrev wX5_hosts : Cond := .code yX5_hosts cX5_hosts 3 (some .boolean)
abbrev cX5_mapped : ByteArray := prog_7_method_11_code
def yX5_mapped : MethodName := ⟨RX5, "mapped", "(I)I"⟩
abbrev wX5_mapped : Cond := .code yX5_mapped cX5_mapped 2 (some .int)
abbrev cX5_frameOf : ByteArray := prog_7_method_12_code
def yX5_frameOf : MethodName := ⟨RX5, "frameOf", "(J)I"⟩
abbrev wX5_frameOf : Cond := .code yX5_frameOf cX5_frameOf 2 (some .int)
abbrev cX5_rightsOf : ByteArray := prog_7_method_13_code
def yX5_rightsOf : MethodName := ⟨RX5, "rightsOf", "(J)I"⟩
abbrev wX5_rightsOf : Cond := .code yX5_rightsOf cX5_rightsOf 2 (some .int)
abbrev cX5_does : ByteArray := prog_7_method_14_code
def yX5_does : MethodName := ⟨RX5, "does", "(II)Z"⟩
abbrev wX5_does : Cond := .code yX5_does cX5_does 2 (some .boolean)
abbrev cX5_isOutside : ByteArray := prog_7_method_15_code
def yX5_isOutside : MethodName := ⟨RX5, "isOutside", "(I)Z"⟩
abbrev wX5_isOutside : Cond := .code yX5_isOutside cX5_isOutside 2 (some .boolean)
abbrev cX5_fails : ByteArray := prog_7_method_16_code
def yX5_fails : MethodName := ⟨RX5, "fails", "(II)Z"⟩
abbrev wX5_fails : Cond := .code yX5_fails cX5_fails 3 (some .boolean)
abbrev cX5_behind : ByteArray := prog_7_method_17_code
def yX5_behind : MethodName := ⟨RX5, "behind", "(II)I"⟩
abbrev wX5_behind : Cond := .code yX5_behind cX5_behind 2 (some .int)
abbrev cX5_ends : ByteArray := prog_7_method_18_code
def yX5_ends : MethodName := ⟨RX5, "ends", "(III)Z"⟩
abbrev wX5_ends : Cond := .code yX5_ends cX5_ends 5 (some .boolean)
abbrev cX5_goes : ByteArray := prog_7_method_19_code
def yX5_goes : MethodName := ⟨RX5, "goes", "(IIII)Z"⟩
abbrev wX5_goes : Cond := .code yX5_goes cX5_goes 11 (some .boolean)
abbrev cX5_walks : ByteArray := prog_7_method_20_code
def yX5_walks : MethodName := ⟨RX5, "walks", "(II)Z"⟩
abbrev wX5_walks : Cond := .code yX5_walks cX5_walks 5 (some .boolean)
abbrev cX5_fits : ByteArray := prog_7_method_21_code
def yX5_fits : MethodName := ⟨RX5, "fits", "(II)Z"⟩
abbrev wX5_fits : Cond := .code yX5_fits cX5_fits 3 (some .boolean)
abbrev cX5_entryFor : ByteArray := prog_7_method_22_code
def yX5_entryFor : MethodName := ⟨RX5, "entryFor", "(I)I"⟩
abbrev wX5_entryFor : Cond := .code yX5_entryFor cX5_entryFor 4 (some .int)
abbrev cX5_use : ByteArray := prog_7_method_23_code
def yX5_use : MethodName := ⟨RX5, "use", "(I)V"⟩
abbrev wX5_use : Cond := .code yX5_use cX5_use 2 none
abbrev cX5_drop : ByteArray := prog_7_method_24_code
def yX5_drop : MethodName := ⟨RX5, "drop", "(I)V"⟩
abbrev wX5_drop : Cond := .code yX5_drop cX5_drop 2 none
abbrev cX5_keep : ByteArray := prog_7_method_25_code
def yX5_keep : MethodName := ⟨RX5, "keep", "(I)V"⟩
abbrev wX5_keep : Cond := .code yX5_keep cX5_keep 5 none
abbrev cX5_mark : ByteArray := prog_7_method_26_code
def yX5_mark : MethodName := ⟨RX5, "mark", "(I)V"⟩
abbrev wX5_mark : Cond := .code yX5_mark cX5_mark 3 none
abbrev cX5_told : ByteArray := prog_7_method_27_code
def yX5_told : MethodName := ⟨RX5, "told", "(Z)I"⟩
abbrev wX5_told : Cond := .code yX5_told cX5_told 2 (some .int)
abbrev cX5_byEntry : ByteArray := prog_7_method_28_code
def yX5_byEntry : MethodName := ⟨RX5, "byEntry", "(III)Z"⟩
abbrev wX5_byEntry : Cond := .code yX5_byEntry cX5_byEntry 4 (some .boolean)
abbrev cX5_walk : ByteArray := prog_7_method_29_code
def yX5_walk : MethodName := ⟨RX5, "walk", "(II)I"⟩
abbrev wX5_walk : Cond := .code yX5_walk cX5_walk 6 (some .int)
abbrev cX5_to : ByteArray := prog_7_method_30_code
def yX5_to : MethodName := ⟨RX5, "to", "()I"⟩
abbrev wX5_to : Cond := .code yX5_to cX5_to 1 (some .int)
abbrev cX5_level : ByteArray := prog_7_method_31_code
def yX5_level : MethodName := ⟨RX5, "level", "()I"⟩
abbrev wX5_level : Cond := .code yX5_level cX5_level 1 (some .int)
abbrev cX5_plain : ByteArray := prog_7_method_32_code
def yX5_plain : MethodName := ⟨RX5, "plain", "(II)I"⟩
abbrev wX5_plain : Cond := .code yX5_plain cX5_plain 3 (some .int)
abbrev cX5_flush : ByteArray := prog_7_method_33_code
def yX5_flush : MethodName := ⟨RX5, "flush", "(II)I"⟩
abbrev wX5_flush : Cond := .code yX5_flush cX5_flush 5 (some .int)
abbrev cX5_inOrder : ByteArray := prog_7_method_34_code
def yX5_inOrder : MethodName := ⟨RX5, "inOrder", "(I)I"⟩
abbrev wX5_inOrder : Cond := .code yX5_inOrder cX5_inOrder 5 (some .int)
abbrev cX5_kept : ByteArray := prog_7_method_35_code
def yX5_kept : MethodName := ⟨RX5, "kept", "(II)I"⟩
abbrev wX5_kept : Cond := .code yX5_kept cX5_kept 4 (some .int)
abbrev cX5_isStale : ByteArray := prog_7_method_36_code
def yX5_isStale : MethodName := ⟨RX5, "isStale", "(II)Z"⟩
abbrev wX5_isStale : Cond := .code yX5_isStale cX5_isStale 7 (some .boolean)
abbrev cX5_stale : ByteArray := prog_7_method_37_code
def yX5_stale : MethodName := ⟨RX5, "stale", "(I)I"⟩
abbrev wX5_stale : Cond := .code yX5_stale cX5_stale 4 (some .int)
abbrev cX5_count : ByteArray := prog_7_method_38_code
def yX5_count : MethodName := ⟨RX5, "count", "(I)I"⟩
abbrev wX5_count : Cond := .code yX5_count cX5_count 2 (some .int)
abbrev cX0_init : ByteArray := prog_2_method_1_code
def yX0_init : MethodName := ⟨RX0, "<init>", "(I)V"⟩
abbrev wX0_init : Cond := .code yX0_init cX0_init 3 none
abbrev cX0_find : ByteArray := prog_2_method_2_code
def yX0_find : MethodName := ⟨RX0, "find", "(II)I"⟩
abbrev wX0_find : Cond := .code yX0_find cX0_find 4 (some .int)
abbrev cX0_use : ByteArray := prog_2_method_3_code
def yX0_use : MethodName := ⟨RX0, "use", "(I)V"⟩
abbrev wX0_use : Cond := .code yX0_use cX0_use 4 none
abbrev cX0_keep : ByteArray := prog_2_method_4_code
def yX0_keep : MethodName := ⟨RX0, "keep", "(IILPageRows$Path;)V"⟩
abbrev wX0_keep : Cond := .code yX0_keep cX0_keep 6 none
abbrev cX0_rowFor : ByteArray := prog_2_method_5_code
def yX0_rowFor : MethodName := ⟨RX0, "rowFor", "(III)I"⟩
abbrev wX0_rowFor : Cond := .code yX0_rowFor cX0_rowFor 5 (some .int)
abbrev cX0_forget : ByteArray := prog_2_method_6_code
def yX0_forget : MethodName := ⟨RX0, "forget", "(III)I"⟩
abbrev wX0_forget : Cond := .code yX0_forget cX0_forget 7 (some .int)
abbrev cX0_isMeant : ByteArray := prog_2_method_7_code
def yX0_isMeant : MethodName := ⟨RX0, "isMeant", "(LPageRows$Entry;III)Z"⟩
abbrev wX0_isMeant : Cond := .code yX0_isMeant cX0_isMeant 4 (some .boolean)
abbrev cX1_init : ByteArray := prog_3_method_1_code
def yX1_init : MethodName := ⟨RX1, "<init>", "()V"⟩
abbrev wX1_init : Cond := .code yX1_init cX1_init 1 none
abbrev cX1_standsFor : ByteArray := prog_3_method_2_code
def yX1_standsFor : MethodName := ⟨RX1, "standsFor", "(II)Z"⟩
abbrev wX1_standsFor : Cond := .code yX1_standsFor cX1_standsFor 3 (some .boolean)
abbrev cX1_part : ByteArray := prog_3_method_3_code
def yX1_part : MethodName := ⟨RX1, "part", "(I)I"⟩
abbrev wX1_part : Cond := .code yX1_part cX1_part 2 (some .int)
abbrev cX2_init : ByteArray := prog_4_method_1_code
def yX2_init : MethodName := ⟨RX2, "<init>", "()V"⟩
abbrev wX2_init : Cond := .code yX2_init cX2_init 2 none
abbrev cX2_homeOf : ByteArray := prog_4_method_2_code
def yX2_homeOf : MethodName := ⟨RX2, "homeOf", "(I)I"⟩
abbrev wX2_homeOf : Cond := .code yX2_homeOf cX2_homeOf 2 (some .int)
abbrev cX2_reach : ByteArray := prog_4_method_3_code
def yX2_reach : MethodName := ⟨RX2, "reach", "(III)I"⟩
abbrev wX2_reach : Cond := .code yX2_reach cX2_reach 6 (some .int)
abbrev cX3_init : ByteArray := prog_5_method_1_code
def yX3_init : MethodName := ⟨RX3, "<init>", "(LPageRows$Memory;I)V"⟩
abbrev wX3_init : Cond := .code yX3_init cX3_init 3 none
abbrev cX3_follow : ByteArray := prog_5_method_2_code
def yX3_follow : MethodName := ⟨RX3, "follow", "(III)I"⟩
abbrev wX3_follow : Cond := .code yX3_follow cX3_follow 7 (some .int)
abbrev cX3_isOutside : ByteArray := prog_5_method_3_code
def yX3_isOutside : MethodName := ⟨RX3, "isOutside", "(I)Z"⟩
abbrev wX3_isOutside : Cond := .code yX3_isOutside cX3_isOutside 2 (some .boolean)
abbrev cX3_stop : ByteArray := prog_5_method_4_code
def yX3_stop : MethodName := ⟨RX3, "stop", "(II)I"⟩
abbrev wX3_stop : Cond := .code yX3_stop cX3_stop 3 (some .int)
abbrev cX3_read : ByteArray := prog_5_method_5_code
def yX3_read : MethodName := ⟨RX3, "read", "(II)I"⟩
abbrev wX3_read : Cond := .code yX3_read cX3_read 5 (some .int)
abbrev cX3_leafFault : ByteArray := prog_5_method_6_code
def yX3_leafFault : MethodName := ⟨RX3, "leafFault", "(I)I"⟩
abbrev wX3_leafFault : Cond := .code yX3_leafFault cX3_leafFault 3 (some .int)
abbrev cX3_mark : ByteArray := prog_5_method_7_code
def yX3_mark : MethodName := ⟨RX3, "mark", "(Z)V"⟩
abbrev wX3_mark : Cond := .code yX3_mark cX3_mark 3 none
abbrev cL_cell : ByteArray := method_2_code
def yL_cell : MethodName := ⟨RL, "cell", "([II)I"⟩
abbrev wL_cell : Cond := .code yL_cell cL_cell 2 (some .int)
abbrev cL_table : ByteArray := method_3_code
def yL_table : MethodName := ⟨RL, "table", "(LPageRows;IJ[J)I"⟩
abbrev wL_table : Cond := .codeWith yL_table cL_table 6 (some .int) [(0, 10, 13, 13)]
abbrev cL_word : ByteArray := method_4_code
def yL_word : MethodName := ⟨RL, "word", "(LPageRows;I[J)I"⟩
abbrev wL_word : Cond := .codeWith yL_word cL_word 4 (some .int) [(0, 8, 11, 13)]
abbrev cL_context : ByteArray := method_5_code
def yL_context : MethodName := ⟨RL, "context", "(LPageRows;I[J)I"⟩
abbrev wL_context : Cond := .codeWith yL_context cL_context 4 (some .int) [(0, 9, 12, 13)]
abbrev cL_root : ByteArray := method_6_code
def yL_root : MethodName := ⟨RL, "root", "(LPageRows;II[J)I"⟩
abbrev wL_root : Cond := .codeWith yL_root cL_root 5 (some .int) [(0, 10, 13, 13), (0, 10, 17, 27)]
abbrev cL_host : ByteArray := method_7_code
def yL_host : MethodName := ⟨RL, "host", "(LPageRows;II[J)I"⟩
abbrev wL_host : Cond := .codeWith yL_host cL_host 5 (some .int) [(0, 10, 13, 13), (0, 10, 17, 27)]
abbrev cL_walk : ByteArray := method_8_code
def yL_walk : MethodName := ⟨RL, "walk", "(LPageRows;II[J)I"⟩
abbrev wL_walk : Cond := .codeWith yL_walk cL_walk 5 (some .int) [(0, 10, 13, 27)]
abbrev cL_plain : ByteArray := method_9_code
def yL_plain : MethodName := ⟨RL, "plain", "(LPageRows;II[J)I"⟩
abbrev wL_plain : Cond := .codeWith yL_plain cL_plain 5 (some .int) [(0, 10, 13, 27)]
abbrev cL_flush : ByteArray := method_10_code
def yL_flush : MethodName := ⟨RL, "flush", "(LPageRows;II[J)I"⟩
abbrev wL_flush : Cond := .codeWith yL_flush cL_flush 5 (some .int) [(0, 10, 13, 27)]
abbrev cL_kept : ByteArray := method_11_code
def yL_kept : MethodName := ⟨RL, "kept", "(LPageRows;II[J)I"⟩
abbrev wL_kept : Cond := .codeWith yL_kept cL_kept 5 (some .int) [(0, 10, 13, 13)]
abbrev cL_stale : ByteArray := method_12_code
def yL_stale : MethodName := ⟨RL, "stale", "(LPageRows;I[J)I"⟩
abbrev wL_stale : Cond := .codeWith yL_stale cL_stale 4 (some .int) [(0, 9, 12, 27)]
abbrev cL_law : ByteArray := code
def yL_law : MethodName := ⟨RL, "law", "([I)Z"⟩
/-- all good words of the tables: every contract's words are its own code and these -/
def AW : List Cond := lw_tbl.filter goodWord
theorem mem_AW {w : Cond} (i : Nat) (h : lw_tbl[i]? = some w) (g : goodWord w = true) : w ∈ AW := List.mem_filter.mpr ⟨List.mem_of_getElem? h, g⟩
theorem AW_tbl {w : Cond} (h : w ∈ AW) : w ∈ lw_tbl := (List.mem_filter.mp h).1
theorem AW_good {w : Cond} (h : w ∈ AW) : (w.onTables && w.keeps) = true ∨ ∃ ty, w = .arrayClass ty := good_of_word (List.mem_filter.mp h).2
theorem gA {ws : List Cond} (h : ∀ w ∈ ws, w ∈ AW) : GoodIn AW ws := fun w hw => ⟨h w hw, AW_good (h w hw)⟩
theorem gC {c : Cond} (h : c ∈ AW) : GoodIn AW (c :: AW) := gA (fun w hw => by
  rcases List.mem_cons.mp hw with e | e
  · rw [e]; exact h
  · exact e)
theorem gV {own C : String} {i : Nat} {y : MethodName} {c : Cond} (h1 : .methodLink own i y ∈ AW) (h2 : .instanceMethod y ∈ AW) (h3 : .selects C y y ∈ AW) (h4 : .initialized C ∈ AW) (h5 : c ∈ AW) : GoodIn AW (wsV own i C y (c :: AW)) := gA (fun w hw => by
  simp only [wsV, List.cons_append, List.nil_append, List.mem_cons] at hw
  rcases hw with e | e | e | e | e | e
  · rw [e]; exact h1
  · rw [e]; exact h2
  · rw [e]; exact h3
  · rw [e]; exact h4
  · rw [e]; exact h5
  · exact e)
theorem gS {own : String} {i : Nat} {y : MethodName} {c : Cond} (h1 : .methodLink own i y ∈ AW) (h2 : .static y ∈ AW) (h3 : .initialized y.cls ∈ AW) (h5 : c ∈ AW) : GoodIn AW (va_wsS own i y (c :: AW)) := gA (fun w hw => by
  simp only [va_wsS, List.cons_append, List.nil_append, List.mem_cons] at hw
  rcases hw with e | e | e | e | e
  · rw [e]; exact h1
  · rw [e]; exact h2
  · rw [e]; exact h3
  · rw [e]; exact h5
  · exact e)
theorem aw_1 : (.selects RX0 yX0_find yX0_find : Cond) ∈ AW := mem_AW 1 (by decide +kernel) (by decide +kernel)
theorem aw_2 : (.selects RX1 yX1_standsFor yX1_standsFor : Cond) ∈ AW := mem_AW 2 (by decide +kernel) (by decide +kernel)
theorem aw_3 : (.selects RX4 yX4_translateByTables yX4_translateByTables : Cond) ∈ AW := mem_AW 3 (by decide +kernel) (by decide +kernel)
theorem aw_4 : (.selects RX3 yX3_follow yX3_follow : Cond) ∈ AW := mem_AW 4 (by decide +kernel) (by decide +kernel)
theorem aw_5 : (.selects RX3 yX3_isOutside yX3_isOutside : Cond) ∈ AW := mem_AW 5 (by decide +kernel) (by decide +kernel)
theorem aw_6 : (.selects RX3 yX3_stop yX3_stop : Cond) ∈ AW := mem_AW 6 (by decide +kernel) (by decide +kernel)
theorem aw_7 : (.selects RX3 yX3_read yX3_read : Cond) ∈ AW := mem_AW 7 (by decide +kernel) (by decide +kernel)
theorem aw_8 : (.selects RX2 yX2_homeOf yX2_homeOf : Cond) ∈ AW := mem_AW 8 (by decide +kernel) (by decide +kernel)
theorem aw_9 : (.selects RX3 yX3_leafFault yX3_leafFault : Cond) ∈ AW := mem_AW 9 (by decide +kernel) (by decide +kernel)
theorem aw_10 : (.selects RX2 yX2_reach yX2_reach : Cond) ∈ AW := mem_AW 10 (by decide +kernel) (by decide +kernel)
theorem aw_11 : (.selects RX3 yX3_mark yX3_mark : Cond) ∈ AW := mem_AW 11 (by decide +kernel) (by decide +kernel)
theorem aw_12 : (.selects RX0 yX0_keep yX0_keep : Cond) ∈ AW := mem_AW 12 (by decide +kernel) (by decide +kernel)
theorem aw_13 : (.selects RX0 yX0_rowFor yX0_rowFor : Cond) ∈ AW := mem_AW 13 (by decide +kernel) (by decide +kernel)
theorem aw_14 : (.selects RX0 yX0_use yX0_use : Cond) ∈ AW := mem_AW 14 (by decide +kernel) (by decide +kernel)
theorem aw_15 : (.selects RX4 yX4_finish yX4_finish : Cond) ∈ AW := mem_AW 15 (by decide +kernel) (by decide +kernel)
theorem aw_16 : (.selects RX4 yX4_translateByEntry yX4_translateByEntry : Cond) ∈ AW := mem_AW 16 (by decide +kernel) (by decide +kernel)
theorem aw_17 : (.selects RX0 yX0_forget yX0_forget : Cond) ∈ AW := mem_AW 17 (by decide +kernel) (by decide +kernel)
theorem aw_18 : (.selects RX1 yX1_part yX1_part : Cond) ∈ AW := mem_AW 18 (by decide +kernel) (by decide +kernel)
theorem aw_19 : (.selects RX4 yX4_isStale yX4_isStale : Cond) ∈ AW := mem_AW 19 (by decide +kernel) (by decide +kernel)
theorem aw_20 : (.selects RX5 yX5_throwing yX5_throwing : Cond) ∈ AW := mem_AW 20 (by decide +kernel) (by decide +kernel)
theorem aw_21 : (.selects RX5 yX5_isOutside yX5_isOutside : Cond) ∈ AW := mem_AW 21 (by decide +kernel) (by decide +kernel)
theorem aw_22 : (.selects RX5 yX5_entryFor yX5_entryFor : Cond) ∈ AW := mem_AW 22 (by decide +kernel) (by decide +kernel)
theorem aw_23 : (.selects RX5 yX5_fits yX5_fits : Cond) ∈ AW := mem_AW 23 (by decide +kernel) (by decide +kernel)
theorem aw_24 : (.selects RX5 yX5_byEntry yX5_byEntry : Cond) ∈ AW := mem_AW 24 (by decide +kernel) (by decide +kernel)
theorem aw_25 : (.selects RX5 yX5_use yX5_use : Cond) ∈ AW := mem_AW 25 (by decide +kernel) (by decide +kernel)
theorem aw_26 : (.selects RX5 yX5_fails yX5_fails : Cond) ∈ AW := mem_AW 26 (by decide +kernel) (by decide +kernel)
theorem aw_27 : (.selects RX5 yX5_ends yX5_ends : Cond) ∈ AW := mem_AW 27 (by decide +kernel) (by decide +kernel)
theorem aw_28 : (.selects RX5 yX5_mapped yX5_mapped : Cond) ∈ AW := mem_AW 28 (by decide +kernel) (by decide +kernel)
theorem aw_29 : (.selects RX5 yX5_told yX5_told : Cond) ∈ AW := mem_AW 29 (by decide +kernel) (by decide +kernel)
theorem aw_30 : (.selects RX5 yX5_walks yX5_walks : Cond) ∈ AW := mem_AW 30 (by decide +kernel) (by decide +kernel)
theorem aw_31 : (.selects RX5 yX5_goes yX5_goes : Cond) ∈ AW := mem_AW 31 (by decide +kernel) (by decide +kernel)
theorem aw_32 : (.selects RX5 yX5_mark yX5_mark : Cond) ∈ AW := mem_AW 32 (by decide +kernel) (by decide +kernel)
theorem aw_33 : (.selects RX5 yX5_keep yX5_keep : Cond) ∈ AW := mem_AW 33 (by decide +kernel) (by decide +kernel)
theorem aw_34 : (.selects RX5 yX5_drop yX5_drop : Cond) ∈ AW := mem_AW 34 (by decide +kernel) (by decide +kernel)
theorem aw_35 : (.selects RX5 yX5_inOrder yX5_inOrder : Cond) ∈ AW := mem_AW 35 (by decide +kernel) (by decide +kernel)
theorem aw_36 : (.selects RX5 yX5_isStale yX5_isStale : Cond) ∈ AW := mem_AW 36 (by decide +kernel) (by decide +kernel)
theorem aw_37 : (.initialized RL : Cond) ∈ AW := mem_AW 37 (by decide +kernel) (by decide +kernel)
theorem aw_38 : (.initialized RX4 : Cond) ∈ AW := mem_AW 38 (by decide +kernel) (by decide +kernel)
theorem aw_39 : (.initialized RX2 : Cond) ∈ AW := mem_AW 39 (by decide +kernel) (by decide +kernel)
theorem aw_40 : (.initialized RX3 : Cond) ∈ AW := mem_AW 40 (by decide +kernel) (by decide +kernel)
theorem aw_41 : (.initialized RX0 : Cond) ∈ AW := mem_AW 41 (by decide +kernel) (by decide +kernel)
theorem aw_42 : (.initialized RX1 : Cond) ∈ AW := mem_AW 42 (by decide +kernel) (by decide +kernel)
theorem aw_43 : (.initialized RX5 : Cond) ∈ AW := mem_AW 43 (by decide +kernel) (by decide +kernel)
theorem aw_44 : (.initialized "java/lang/Throwable" : Cond) ∈ AW := mem_AW 44 (by decide +kernel) (by decide +kernel)
theorem aw_45 : (.initialized "java/lang/Exception" : Cond) ∈ AW := mem_AW 45 (by decide +kernel) (by decide +kernel)
theorem aw_46 : (.initialized "java/lang/RuntimeException" : Cond) ∈ AW := mem_AW 46 (by decide +kernel) (by decide +kernel)
theorem aw_47 : (.initialized "java/lang/IndexOutOfBoundsException" : Cond) ∈ AW := mem_AW 47 (by decide +kernel) (by decide +kernel)
theorem aw_48 : (.initialized "java/lang/IllegalArgumentException" : Cond) ∈ AW := mem_AW 48 (by decide +kernel) (by decide +kernel)
theorem aw_49 : (.classLink RL 8 RX4 : Cond) ∈ AW := mem_AW 49 (by decide +kernel) (by decide +kernel)
theorem aw_50 : (.instantiable RX4 12 : Cond) ∈ AW := mem_AW 50 (by decide +kernel) (by decide +kernel)
theorem aw_51 : (.methodLink RL 53 yX4_init : Cond) ∈ AW := mem_AW 51 (by decide +kernel) (by decide +kernel)
theorem aw_52 : (.instanceMethod yX4_init : Cond) ∈ AW := mem_AW 52 (by decide +kernel) (by decide +kernel)
theorem aw_53 : (wX4_init : Cond) ∈ AW := mem_AW 53 (by decide +kernel) (by decide +kernel)
theorem aw_54 : (.methodLink RX4 3 objectInit : Cond) ∈ AW := mem_AW 54 (by decide +kernel) (by decide +kernel)
theorem aw_55 : (.instanceMethod objectInit : Cond) ∈ AW := mem_AW 55 (by decide +kernel) (by decide +kernel)
theorem aw_56 : (.code objectInit ⟨#[0xb1]⟩ 1 none : Cond) ∈ AW := mem_AW 56 (by decide +kernel) (by decide +kernel)
theorem aw_57 : (.classLink RX4 13 RX2 : Cond) ∈ AW := mem_AW 57 (by decide +kernel) (by decide +kernel)
theorem aw_58 : (.instantiable RX2 3 : Cond) ∈ AW := mem_AW 58 (by decide +kernel) (by decide +kernel)
theorem aw_60 : (.instanceMethod yX2_init : Cond) ∈ AW := mem_AW 60 (by decide +kernel) (by decide +kernel)
theorem aw_61 : (wX2_init : Cond) ∈ AW := mem_AW 61 (by decide +kernel) (by decide +kernel)
theorem aw_62 : (.methodLink RX2 3 objectInit : Cond) ∈ AW := mem_AW 62 (by decide +kernel) (by decide +kernel)
theorem aw_63 : (.fieldLink RX2 9 "PageRows$Memory" "words" "[J" : Cond) ∈ AW := mem_AW 63 (by decide +kernel) (by decide +kernel)
theorem aw_66 : (.fieldLink RX2 15 "PageRows$Memory" "hosts" "[I" : Cond) ∈ AW := mem_AW 66 (by decide +kernel) (by decide +kernel)
theorem aw_68 : (.fieldLink RX2 19 "PageRows$Memory" "hostsOn" "Z" : Cond) ∈ AW := mem_AW 68 (by decide +kernel) (by decide +kernel)
theorem aw_77 : (.arrayClass .long : Cond) ∈ AW := mem_AW 77 (by decide +kernel) (by decide +kernel)
theorem aw_78 : (.arrayClass .int : Cond) ∈ AW := mem_AW 78 (by decide +kernel) (by decide +kernel)
theorem aw_79 : (.classLink RX4 20 RX3 : Cond) ∈ AW := mem_AW 79 (by decide +kernel) (by decide +kernel)
theorem aw_80 : (.instantiable RX3 8 : Cond) ∈ AW := mem_AW 80 (by decide +kernel) (by decide +kernel)
theorem aw_82 : (.instanceMethod yX3_init : Cond) ∈ AW := mem_AW 82 (by decide +kernel) (by decide +kernel)
theorem aw_83 : (wX3_init : Cond) ∈ AW := mem_AW 83 (by decide +kernel) (by decide +kernel)
theorem aw_84 : (.methodLink RX3 3 objectInit : Cond) ∈ AW := mem_AW 84 (by decide +kernel) (by decide +kernel)
theorem aw_85 : (.fieldLink RX3 9 "PageRows$Path" "memory" "LPageRows$Memory;" : Cond) ∈ AW := mem_AW 85 (by decide +kernel) (by decide +kernel)
theorem aw_86 : (.fieldLink RX3 15 "PageRows$Path" "levels" "I" : Cond) ∈ AW := mem_AW 86 (by decide +kernel) (by decide +kernel)
theorem aw_87 : (.fieldLink RX3 19 "PageRows$Path" "wordsPassed" "[I" : Cond) ∈ AW := mem_AW 87 (by decide +kernel) (by decide +kernel)
theorem aw_88 : (.fieldLink RX3 23 "PageRows$Path" "reads" "I" : Cond) ∈ AW := mem_AW 88 (by decide +kernel) (by decide +kernel)
theorem aw_90 : (.fieldLink RX3 47 "PageRows$Path" "leaf" "J" : Cond) ∈ AW := mem_AW 90 (by decide +kernel) (by decide +kernel)
theorem aw_92 : (.fieldLink RX3 57 "PageRows$Path" "largeness" "I" : Cond) ∈ AW := mem_AW 92 (by decide +kernel) (by decide +kernel)
theorem aw_94 : (.fieldLink RX3 26 "PageRows$Path" "faultLevel" "I" : Cond) ∈ AW := mem_AW 94 (by decide +kernel) (by decide +kernel)
theorem aw_96 : (.fieldLink RX3 29 "PageRows$Path" "reached" "I" : Cond) ∈ AW := mem_AW 96 (by decide +kernel) (by decide +kernel)
theorem aw_115 : (.classLink RX4 29 RX0 : Cond) ∈ AW := mem_AW 115 (by decide +kernel) (by decide +kernel)
theorem aw_116 : (.instantiable RX0 3 : Cond) ∈ AW := mem_AW 116 (by decide +kernel) (by decide +kernel)
theorem aw_118 : (.instanceMethod yX0_init : Cond) ∈ AW := mem_AW 118 (by decide +kernel) (by decide +kernel)
theorem aw_119 : (wX0_init : Cond) ∈ AW := mem_AW 119 (by decide +kernel) (by decide +kernel)
theorem aw_120 : (.methodLink RX0 3 objectInit : Cond) ∈ AW := mem_AW 120 (by decide +kernel) (by decide +kernel)
theorem aw_121 : (.classLink RX0 9 RX1 : Cond) ∈ AW := mem_AW 121 (by decide +kernel) (by decide +kernel)
theorem aw_123 : (.instantiable RX1 6 : Cond) ∈ AW := mem_AW 123 (by decide +kernel) (by decide +kernel)
theorem aw_125 : (.instanceMethod yX1_init : Cond) ∈ AW := mem_AW 125 (by decide +kernel) (by decide +kernel)
theorem aw_126 : (wX1_init : Cond) ∈ AW := mem_AW 126 (by decide +kernel) (by decide +kernel)
theorem aw_127 : (.methodLink RX1 1 objectInit : Cond) ∈ AW := mem_AW 127 (by decide +kernel) (by decide +kernel)
theorem aw_128 : (.fieldLink RX1 7 "PageRows$Entry" "context" "I" : Cond) ∈ AW := mem_AW 128 (by decide +kernel) (by decide +kernel)
theorem aw_131 : (.fieldLink RX1 16 "PageRows$Entry" "largeness" "I" : Cond) ∈ AW := mem_AW 131 (by decide +kernel) (by decide +kernel)
theorem aw_134 : (.fieldLink RX1 13 "PageRows$Entry" "bits" "I" : Cond) ∈ AW := mem_AW 134 (by decide +kernel) (by decide +kernel)
theorem aw_137 : (.fieldLink RX1 25 "PageRows$Entry" "frame" "I" : Cond) ∈ AW := mem_AW 137 (by decide +kernel) (by decide +kernel)
theorem aw_140 : (.fieldLink RX1 28 "PageRows$Entry" "rights" "I" : Cond) ∈ AW := mem_AW 140 (by decide +kernel) (by decide +kernel)
theorem aw_143 : (.fieldLink RX1 31 "PageRows$Entry" "changed" "Z" : Cond) ∈ AW := mem_AW 143 (by decide +kernel) (by decide +kernel)
theorem aw_159 : (.fieldLink RX0 11 "PageRows$Entries" "rows" "[LPageRows$Entry;" : Cond) ∈ AW := mem_AW 159 (by decide +kernel) (by decide +kernel)
theorem aw_161 : (.fieldLink RX0 18 "PageRows$Entries" "size" "I" : Cond) ∈ AW := mem_AW 161 (by decide +kernel) (by decide +kernel)
theorem aw_163 : (.fieldLink RX0 73 "PageRows$Entries" "crowdedOut" "I" : Cond) ∈ AW := mem_AW 163 (by decide +kernel) (by decide +kernel)
theorem aw_172 : (.fieldLink RX4 9 "PageRows" "levels" "I" : Cond) ∈ AW := mem_AW 172 (by decide +kernel) (by decide +kernel)
theorem aw_173 : (.fieldLink RX4 16 "PageRows" "memory" "LPageRows$Memory;" : Cond) ∈ AW := mem_AW 173 (by decide +kernel) (by decide +kernel)
theorem aw_174 : (.fieldLink RX4 25 "PageRows" "path" "LPageRows$Path;" : Cond) ∈ AW := mem_AW 174 (by decide +kernel) (by decide +kernel)
theorem aw_175 : (.fieldLink RX4 34 "PageRows" "entries" "LPageRows$Entries;" : Cond) ∈ AW := mem_AW 175 (by decide +kernel) (by decide +kernel)
theorem aw_176 : (.fieldLink RX4 38 "PageRows" "roots" "[I" : Cond) ∈ AW := mem_AW 176 (by decide +kernel) (by decide +kernel)
theorem aw_177 : (.fieldLink RX4 42 "PageRows" "context" "I" : Cond) ∈ AW := mem_AW 177 (by decide +kernel) (by decide +kernel)
theorem aw_178 : (.fieldLink RX4 45 "PageRows" "latestTo" "I" : Cond) ∈ AW := mem_AW 178 (by decide +kernel) (by decide +kernel)
theorem aw_179 : (.fieldLink RX4 48 "PageRows" "latestLevel" "I" : Cond) ∈ AW := mem_AW 179 (by decide +kernel) (by decide +kernel)
theorem aw_180 : (.fieldLink RX4 132 "PageRows" "wordsRead" "I" : Cond) ∈ AW := mem_AW 180 (by decide +kernel) (by decide +kernel)
theorem aw_181 : (.fieldLink RX4 135 "PageRows" "byEntries" "I" : Cond) ∈ AW := mem_AW 181 (by decide +kernel) (by decide +kernel)
theorem aw_182 : (.fieldLink RX4 138 "PageRows" "byWalks" "I" : Cond) ∈ AW := mem_AW 182 (by decide +kernel) (by decide +kernel)
theorem aw_183 : (.fieldLink RX4 141 "PageRows" "faults" "I" : Cond) ∈ AW := mem_AW 183 (by decide +kernel) (by decide +kernel)
theorem aw_209 : (.methodLink RL 83 yX4_hosts : Cond) ∈ AW := mem_AW 209 (by decide +kernel) (by decide +kernel)
theorem aw_210 : (.instanceMethod yX4_hosts : Cond) ∈ AW := mem_AW 210 (by decide +kernel) (by decide +kernel)
theorem aw_211 : (.selects RX4 yX4_hosts yX4_hosts : Cond) ∈ AW := mem_AW 211 (by decide +kernel) (by decide +kernel)
theorem aw_212 : (wX4_hosts : Cond) ∈ AW := mem_AW 212 (by decide +kernel) (by decide +kernel)
theorem aw_213 : (.methodLink RL 91 yX4_to : Cond) ∈ AW := mem_AW 213 (by decide +kernel) (by decide +kernel)
theorem aw_214 : (.instanceMethod yX4_to : Cond) ∈ AW := mem_AW 214 (by decide +kernel) (by decide +kernel)
theorem aw_215 : (.selects RX4 yX4_to yX4_to : Cond) ∈ AW := mem_AW 215 (by decide +kernel) (by decide +kernel)
theorem aw_216 : (wX4_to : Cond) ∈ AW := mem_AW 216 (by decide +kernel) (by decide +kernel)
theorem aw_217 : (.methodLink RL 95 yX4_level : Cond) ∈ AW := mem_AW 217 (by decide +kernel) (by decide +kernel)
theorem aw_218 : (.instanceMethod yX4_level : Cond) ∈ AW := mem_AW 218 (by decide +kernel) (by decide +kernel)
theorem aw_219 : (.selects RX4 yX4_level yX4_level : Cond) ∈ AW := mem_AW 219 (by decide +kernel) (by decide +kernel)
theorem aw_220 : (wX4_level : Cond) ∈ AW := mem_AW 220 (by decide +kernel) (by decide +kernel)
theorem aw_221 : (.methodLink RL 111 yX4_count : Cond) ∈ AW := mem_AW 221 (by decide +kernel) (by decide +kernel)
theorem aw_222 : (.instanceMethod yX4_count : Cond) ∈ AW := mem_AW 222 (by decide +kernel) (by decide +kernel)
theorem aw_223 : (.selects RX4 yX4_count yX4_count : Cond) ∈ AW := mem_AW 223 (by decide +kernel) (by decide +kernel)
theorem aw_224 : (wX4_count : Cond) ∈ AW := mem_AW 224 (by decide +kernel) (by decide +kernel)
theorem aw_225 : (.methodLink RL 47 yL_cell : Cond) ∈ AW := mem_AW 225 (by decide +kernel) (by decide +kernel)
theorem aw_226 : (.static yL_cell : Cond) ∈ AW := mem_AW 226 (by decide +kernel) (by decide +kernel)
theorem aw_227 : (wL_cell : Cond) ∈ AW := mem_AW 227 (by decide +kernel) (by decide +kernel)
theorem aw_228 : (.methodLink RL 61 yL_table : Cond) ∈ AW := mem_AW 228 (by decide +kernel) (by decide +kernel)
theorem aw_229 : (.static yL_table : Cond) ∈ AW := mem_AW 229 (by decide +kernel) (by decide +kernel)
theorem aw_230 : (wL_table : Cond) ∈ AW := mem_AW 230 (by decide +kernel) (by decide +kernel)
theorem aw_231 : (.classLink RL 13 "java/lang/IndexOutOfBoundsException" : Cond) ∈ AW := mem_AW 231 (by decide +kernel) (by decide +kernel)
theorem aw_232 : (.methodLink RL 7 yX4_table : Cond) ∈ AW := mem_AW 232 (by decide +kernel) (by decide +kernel)
theorem aw_233 : (.instanceMethod yX4_table : Cond) ∈ AW := mem_AW 233 (by decide +kernel) (by decide +kernel)
theorem aw_234 : (.selects RX4 yX4_table yX4_table : Cond) ∈ AW := mem_AW 234 (by decide +kernel) (by decide +kernel)
theorem aw_235 : (wX4_table : Cond) ∈ AW := mem_AW 235 (by decide +kernel) (by decide +kernel)
theorem aw_236 : (.classLink RX4 51 "java/lang/IndexOutOfBoundsException" : Cond) ∈ AW := mem_AW 236 (by decide +kernel) (by decide +kernel)
theorem aw_302 : (.arrayClass .byte : Cond) ∈ AW := mem_AW 302 (by decide +kernel) (by decide +kernel)
theorem aw_303 : (.methodLink RL 69 yL_word : Cond) ∈ AW := mem_AW 303 (by decide +kernel) (by decide +kernel)
theorem aw_304 : (.static yL_word : Cond) ∈ AW := mem_AW 304 (by decide +kernel) (by decide +kernel)
theorem aw_305 : (wL_word : Cond) ∈ AW := mem_AW 305 (by decide +kernel) (by decide +kernel)
theorem aw_306 : (.methodLink RL 15 yX4_word : Cond) ∈ AW := mem_AW 306 (by decide +kernel) (by decide +kernel)
theorem aw_307 : (.instanceMethod yX4_word : Cond) ∈ AW := mem_AW 307 (by decide +kernel) (by decide +kernel)
theorem aw_308 : (.selects RX4 yX4_word yX4_word : Cond) ∈ AW := mem_AW 308 (by decide +kernel) (by decide +kernel)
theorem aw_309 : (wX4_word : Cond) ∈ AW := mem_AW 309 (by decide +kernel) (by decide +kernel)
theorem aw_310 : (.methodLink RL 73 yL_context : Cond) ∈ AW := mem_AW 310 (by decide +kernel) (by decide +kernel)
theorem aw_311 : (.static yL_context : Cond) ∈ AW := mem_AW 311 (by decide +kernel) (by decide +kernel)
theorem aw_312 : (wL_context : Cond) ∈ AW := mem_AW 312 (by decide +kernel) (by decide +kernel)
theorem aw_313 : (.methodLink RL 19 yX4_context : Cond) ∈ AW := mem_AW 313 (by decide +kernel) (by decide +kernel)
theorem aw_314 : (.instanceMethod yX4_context : Cond) ∈ AW := mem_AW 314 (by decide +kernel) (by decide +kernel)
theorem aw_315 : (.selects RX4 yX4_context yX4_context : Cond) ∈ AW := mem_AW 315 (by decide +kernel) (by decide +kernel)
theorem aw_316 : (wX4_context : Cond) ∈ AW := mem_AW 316 (by decide +kernel) (by decide +kernel)
theorem aw_318 : (.methodLink RL 76 yL_root : Cond) ∈ AW := mem_AW 318 (by decide +kernel) (by decide +kernel)
theorem aw_319 : (.static yL_root : Cond) ∈ AW := mem_AW 319 (by decide +kernel) (by decide +kernel)
theorem aw_320 : (wL_root : Cond) ∈ AW := mem_AW 320 (by decide +kernel) (by decide +kernel)
theorem aw_321 : (.classLink RL 27 "java/lang/IllegalArgumentException" : Cond) ∈ AW := mem_AW 321 (by decide +kernel) (by decide +kernel)
theorem aw_322 : (.methodLink RL 23 yX4_root : Cond) ∈ AW := mem_AW 322 (by decide +kernel) (by decide +kernel)
theorem aw_323 : (.instanceMethod yX4_root : Cond) ∈ AW := mem_AW 323 (by decide +kernel) (by decide +kernel)
theorem aw_324 : (.selects RX4 yX4_root yX4_root : Cond) ∈ AW := mem_AW 324 (by decide +kernel) (by decide +kernel)
theorem aw_325 : (wX4_root : Cond) ∈ AW := mem_AW 325 (by decide +kernel) (by decide +kernel)
theorem aw_326 : (.classLink RX4 64 "java/lang/IllegalArgumentException" : Cond) ∈ AW := mem_AW 326 (by decide +kernel) (by decide +kernel)
theorem aw_342 : (.methodLink RL 80 yL_host : Cond) ∈ AW := mem_AW 342 (by decide +kernel) (by decide +kernel)
theorem aw_343 : (.static yL_host : Cond) ∈ AW := mem_AW 343 (by decide +kernel) (by decide +kernel)
theorem aw_344 : (wL_host : Cond) ∈ AW := mem_AW 344 (by decide +kernel) (by decide +kernel)
theorem aw_345 : (.methodLink RL 29 yX4_host : Cond) ∈ AW := mem_AW 345 (by decide +kernel) (by decide +kernel)
theorem aw_346 : (.instanceMethod yX4_host : Cond) ∈ AW := mem_AW 346 (by decide +kernel) (by decide +kernel)
theorem aw_347 : (.selects RX4 yX4_host yX4_host : Cond) ∈ AW := mem_AW 347 (by decide +kernel) (by decide +kernel)
theorem aw_348 : (wX4_host : Cond) ∈ AW := mem_AW 348 (by decide +kernel) (by decide +kernel)
theorem aw_349 : (.constant RX4 69 65535 : Cond) ∈ AW := mem_AW 349 (by decide +kernel) (by decide +kernel)
theorem aw_351 : (.methodLink RL 88 yL_walk : Cond) ∈ AW := mem_AW 351 (by decide +kernel) (by decide +kernel)
theorem aw_352 : (.static yL_walk : Cond) ∈ AW := mem_AW 352 (by decide +kernel) (by decide +kernel)
theorem aw_353 : (wL_walk : Cond) ∈ AW := mem_AW 353 (by decide +kernel) (by decide +kernel)
theorem aw_354 : (.methodLink RL 32 yX4_walk : Cond) ∈ AW := mem_AW 354 (by decide +kernel) (by decide +kernel)
theorem aw_355 : (.instanceMethod yX4_walk : Cond) ∈ AW := mem_AW 355 (by decide +kernel) (by decide +kernel)
theorem aw_356 : (.selects RX4 yX4_walk yX4_walk : Cond) ∈ AW := mem_AW 356 (by decide +kernel) (by decide +kernel)
theorem aw_357 : (wX4_walk : Cond) ∈ AW := mem_AW 357 (by decide +kernel) (by decide +kernel)
theorem aw_358 : (.methodLink RX4 79 yX4_isKind : Cond) ∈ AW := mem_AW 358 (by decide +kernel) (by decide +kernel)
theorem aw_359 : (.static yX4_isKind : Cond) ∈ AW := mem_AW 359 (by decide +kernel) (by decide +kernel)
theorem aw_360 : (wX4_isKind : Cond) ∈ AW := mem_AW 360 (by decide +kernel) (by decide +kernel)
theorem aw_364 : (.instanceMethod yX0_find : Cond) ∈ AW := mem_AW 364 (by decide +kernel) (by decide +kernel)
theorem aw_365 : (wX0_find : Cond) ∈ AW := mem_AW 365 (by decide +kernel) (by decide +kernel)
theorem aw_368 : (.instanceMethod yX1_standsFor : Cond) ∈ AW := mem_AW 368 (by decide +kernel) (by decide +kernel)
theorem aw_369 : (wX1_standsFor : Cond) ∈ AW := mem_AW 369 (by decide +kernel) (by decide +kernel)
theorem aw_371 : (.static yX4_bitsBelow : Cond) ∈ AW := mem_AW 371 (by decide +kernel) (by decide +kernel)
theorem aw_372 : (wX4_bitsBelow : Cond) ∈ AW := mem_AW 372 (by decide +kernel) (by decide +kernel)
theorem aw_373 : (.methodLink RX4 93 yX4_needsChangedMark : Cond) ∈ AW := mem_AW 373 (by decide +kernel) (by decide +kernel)
theorem aw_374 : (.static yX4_needsChangedMark : Cond) ∈ AW := mem_AW 374 (by decide +kernel) (by decide +kernel)
theorem aw_375 : (wX4_needsChangedMark : Cond) ∈ AW := mem_AW 375 (by decide +kernel) (by decide +kernel)
theorem aw_376 : (.methodLink RX4 150 yX4_isWrite : Cond) ∈ AW := mem_AW 376 (by decide +kernel) (by decide +kernel)
theorem aw_377 : (.static yX4_isWrite : Cond) ∈ AW := mem_AW 377 (by decide +kernel) (by decide +kernel)
theorem aw_378 : (wX4_isWrite : Cond) ∈ AW := mem_AW 378 (by decide +kernel) (by decide +kernel)
theorem aw_379 : (.methodLink RX4 173 yX4_allows : Cond) ∈ AW := mem_AW 379 (by decide +kernel) (by decide +kernel)
theorem aw_380 : (.static yX4_allows : Cond) ∈ AW := mem_AW 380 (by decide +kernel) (by decide +kernel)
theorem aw_381 : (wX4_allows : Cond) ∈ AW := mem_AW 381 (by decide +kernel) (by decide +kernel)
theorem aw_382 : (.methodLink RX4 97 yX4_translateByTables : Cond) ∈ AW := mem_AW 382 (by decide +kernel) (by decide +kernel)
theorem aw_384 : (.instanceMethod yX4_translateByTables : Cond) ∈ AW := mem_AW 384 (by decide +kernel) (by decide +kernel)
theorem aw_385 : (wX4_translateByTables : Cond) ∈ AW := mem_AW 385 (by decide +kernel) (by decide +kernel)
theorem aw_388 : (.instanceMethod yX3_follow : Cond) ∈ AW := mem_AW 388 (by decide +kernel) (by decide +kernel)
theorem aw_389 : (wX3_follow : Cond) ∈ AW := mem_AW 389 (by decide +kernel) (by decide +kernel)
theorem aw_390 : (.methodLink RX3 32 yX3_isOutside : Cond) ∈ AW := mem_AW 390 (by decide +kernel) (by decide +kernel)
theorem aw_392 : (.instanceMethod yX3_isOutside : Cond) ∈ AW := mem_AW 392 (by decide +kernel) (by decide +kernel)
theorem aw_393 : (wX3_isOutside : Cond) ∈ AW := mem_AW 393 (by decide +kernel) (by decide +kernel)
theorem aw_395 : (.methodLink RX3 36 yX3_stop : Cond) ∈ AW := mem_AW 395 (by decide +kernel) (by decide +kernel)
theorem aw_397 : (.instanceMethod yX3_stop : Cond) ∈ AW := mem_AW 397 (by decide +kernel) (by decide +kernel)
theorem aw_398 : (wX3_stop : Cond) ∈ AW := mem_AW 398 (by decide +kernel) (by decide +kernel)
theorem aw_399 : (.methodLink RX3 44 yX3_read : Cond) ∈ AW := mem_AW 399 (by decide +kernel) (by decide +kernel)
theorem aw_401 : (.instanceMethod yX3_read : Cond) ∈ AW := mem_AW 401 (by decide +kernel) (by decide +kernel)
theorem aw_402 : (wX3_read : Cond) ∈ AW := mem_AW 402 (by decide +kernel) (by decide +kernel)
theorem aw_405 : (.instanceMethod yX2_homeOf : Cond) ∈ AW := mem_AW 405 (by decide +kernel) (by decide +kernel)
theorem aw_406 : (wX2_homeOf : Cond) ∈ AW := mem_AW 406 (by decide +kernel) (by decide +kernel)
theorem aw_408 : (.static yX4_frameOf : Cond) ∈ AW := mem_AW 408 (by decide +kernel) (by decide +kernel)
theorem aw_409 : (wX4_frameOf : Cond) ∈ AW := mem_AW 409 (by decide +kernel) (by decide +kernel)
theorem aw_410 : (.constant RX4 195 1048575 : Cond) ∈ AW := mem_AW 410 (by decide +kernel) (by decide +kernel)
theorem aw_411 : (.constantLong RX3 55 32 : Cond) ∈ AW := mem_AW 411 (by decide +kernel) (by decide +kernel)
theorem aw_412 : (.methodLink RX3 60 yX3_leafFault : Cond) ∈ AW := mem_AW 412 (by decide +kernel) (by decide +kernel)
theorem aw_414 : (.instanceMethod yX3_leafFault : Cond) ∈ AW := mem_AW 414 (by decide +kernel) (by decide +kernel)
theorem aw_415 : (wX3_leafFault : Cond) ∈ AW := mem_AW 415 (by decide +kernel) (by decide +kernel)
theorem aw_417 : (.static yX4_rightsOf : Cond) ∈ AW := mem_AW 417 (by decide +kernel) (by decide +kernel)
theorem aw_418 : (wX4_rightsOf : Cond) ∈ AW := mem_AW 418 (by decide +kernel) (by decide +kernel)
theorem aw_422 : (.instanceMethod yX2_reach : Cond) ∈ AW := mem_AW 422 (by decide +kernel) (by decide +kernel)
theorem aw_423 : (wX2_reach : Cond) ∈ AW := mem_AW 423 (by decide +kernel) (by decide +kernel)
theorem aw_425 : (.methodLink RX2 27 yX2_homeOf : Cond) ∈ AW := mem_AW 425 (by decide +kernel) (by decide +kernel)
theorem aw_428 : (.instanceMethod yX3_mark : Cond) ∈ AW := mem_AW 428 (by decide +kernel) (by decide +kernel)
theorem aw_429 : (wX3_mark : Cond) ∈ AW := mem_AW 429 (by decide +kernel) (by decide +kernel)
theorem aw_430 : (.constantLong RX3 83 64 : Cond) ∈ AW := mem_AW 430 (by decide +kernel) (by decide +kernel)
theorem aw_431 : (.constantLong RX3 85 128 : Cond) ∈ AW := mem_AW 431 (by decide +kernel) (by decide +kernel)
theorem aw_434 : (.instanceMethod yX0_keep : Cond) ∈ AW := mem_AW 434 (by decide +kernel) (by decide +kernel)
theorem aw_435 : (wX0_keep : Cond) ∈ AW := mem_AW 435 (by decide +kernel) (by decide +kernel)
theorem aw_436 : (.methodLink RX0 31 yX0_rowFor : Cond) ∈ AW := mem_AW 436 (by decide +kernel) (by decide +kernel)
theorem aw_438 : (.instanceMethod yX0_rowFor : Cond) ∈ AW := mem_AW 438 (by decide +kernel) (by decide +kernel)
theorem aw_439 : (wX0_rowFor : Cond) ∈ AW := mem_AW 439 (by decide +kernel) (by decide +kernel)
theorem aw_443 : (.constantLong RX0 63 128 : Cond) ∈ AW := mem_AW 443 (by decide +kernel) (by decide +kernel)
theorem aw_444 : (.methodLink RX0 69 yX0_use : Cond) ∈ AW := mem_AW 444 (by decide +kernel) (by decide +kernel)
theorem aw_446 : (.instanceMethod yX0_use : Cond) ∈ AW := mem_AW 446 (by decide +kernel) (by decide +kernel)
theorem aw_447 : (wX0_use : Cond) ∈ AW := mem_AW 447 (by decide +kernel) (by decide +kernel)
theorem aw_448 : (.methodLink RX4 164 yX4_finish : Cond) ∈ AW := mem_AW 448 (by decide +kernel) (by decide +kernel)
theorem aw_450 : (.instanceMethod yX4_finish : Cond) ∈ AW := mem_AW 450 (by decide +kernel) (by decide +kernel)
theorem aw_451 : (wX4_finish : Cond) ∈ AW := mem_AW 451 (by decide +kernel) (by decide +kernel)
theorem aw_452 : (.methodLink RX4 100 yX4_translateByEntry : Cond) ∈ AW := mem_AW 452 (by decide +kernel) (by decide +kernel)
theorem aw_454 : (.instanceMethod yX4_translateByEntry : Cond) ∈ AW := mem_AW 454 (by decide +kernel) (by decide +kernel)
theorem aw_455 : (wX4_translateByEntry : Cond) ∈ AW := mem_AW 455 (by decide +kernel) (by decide +kernel)
theorem aw_458 : (.methodLink RL 99 yL_plain : Cond) ∈ AW := mem_AW 458 (by decide +kernel) (by decide +kernel)
theorem aw_459 : (.static yL_plain : Cond) ∈ AW := mem_AW 459 (by decide +kernel) (by decide +kernel)
theorem aw_460 : (wL_plain : Cond) ∈ AW := mem_AW 460 (by decide +kernel) (by decide +kernel)
theorem aw_461 : (.methodLink RL 35 yX4_plain : Cond) ∈ AW := mem_AW 461 (by decide +kernel) (by decide +kernel)
theorem aw_462 : (.instanceMethod yX4_plain : Cond) ∈ AW := mem_AW 462 (by decide +kernel) (by decide +kernel)
theorem aw_463 : (.selects RX4 yX4_plain yX4_plain : Cond) ∈ AW := mem_AW 463 (by decide +kernel) (by decide +kernel)
theorem aw_464 : (wX4_plain : Cond) ∈ AW := mem_AW 464 (by decide +kernel) (by decide +kernel)
theorem aw_465 : (.methodLink RL 102 yL_flush : Cond) ∈ AW := mem_AW 465 (by decide +kernel) (by decide +kernel)
theorem aw_466 : (.static yL_flush : Cond) ∈ AW := mem_AW 466 (by decide +kernel) (by decide +kernel)
theorem aw_467 : (wL_flush : Cond) ∈ AW := mem_AW 467 (by decide +kernel) (by decide +kernel)
theorem aw_468 : (.methodLink RL 38 yX4_flush : Cond) ∈ AW := mem_AW 468 (by decide +kernel) (by decide +kernel)
theorem aw_469 : (.instanceMethod yX4_flush : Cond) ∈ AW := mem_AW 469 (by decide +kernel) (by decide +kernel)
theorem aw_470 : (.selects RX4 yX4_flush yX4_flush : Cond) ∈ AW := mem_AW 470 (by decide +kernel) (by decide +kernel)
theorem aw_471 : (wX4_flush : Cond) ∈ AW := mem_AW 471 (by decide +kernel) (by decide +kernel)
theorem aw_475 : (.instanceMethod yX0_forget : Cond) ∈ AW := mem_AW 475 (by decide +kernel) (by decide +kernel)
theorem aw_476 : (wX0_forget : Cond) ∈ AW := mem_AW 476 (by decide +kernel) (by decide +kernel)
theorem aw_477 : (.methodLink RX0 76 yX0_isMeant : Cond) ∈ AW := mem_AW 477 (by decide +kernel) (by decide +kernel)
theorem aw_478 : (.static yX0_isMeant : Cond) ∈ AW := mem_AW 478 (by decide +kernel) (by decide +kernel)
theorem aw_479 : (wX0_isMeant : Cond) ∈ AW := mem_AW 479 (by decide +kernel) (by decide +kernel)
theorem aw_480 : (.methodLink RL 105 yL_kept : Cond) ∈ AW := mem_AW 480 (by decide +kernel) (by decide +kernel)
theorem aw_481 : (.static yL_kept : Cond) ∈ AW := mem_AW 481 (by decide +kernel) (by decide +kernel)
theorem aw_482 : (wL_kept : Cond) ∈ AW := mem_AW 482 (by decide +kernel) (by decide +kernel)
theorem aw_483 : (.methodLink RL 41 yX4_kept : Cond) ∈ AW := mem_AW 483 (by decide +kernel) (by decide +kernel)
theorem aw_484 : (.instanceMethod yX4_kept : Cond) ∈ AW := mem_AW 484 (by decide +kernel) (by decide +kernel)
theorem aw_485 : (.selects RX4 yX4_kept yX4_kept : Cond) ∈ AW := mem_AW 485 (by decide +kernel) (by decide +kernel)
theorem aw_486 : (wX4_kept : Cond) ∈ AW := mem_AW 486 (by decide +kernel) (by decide +kernel)
theorem aw_491 : (.instanceMethod yX1_part : Cond) ∈ AW := mem_AW 491 (by decide +kernel) (by decide +kernel)
theorem aw_492 : (wX1_part : Cond) ∈ AW := mem_AW 492 (by decide +kernel) (by decide +kernel)
theorem aw_493 : (.methodLink RL 108 yL_stale : Cond) ∈ AW := mem_AW 493 (by decide +kernel) (by decide +kernel)
theorem aw_494 : (.static yL_stale : Cond) ∈ AW := mem_AW 494 (by decide +kernel) (by decide +kernel)
theorem aw_495 : (wL_stale : Cond) ∈ AW := mem_AW 495 (by decide +kernel) (by decide +kernel)
theorem aw_496 : (.methodLink RL 44 yX4_stale : Cond) ∈ AW := mem_AW 496 (by decide +kernel) (by decide +kernel)
theorem aw_497 : (.instanceMethod yX4_stale : Cond) ∈ AW := mem_AW 497 (by decide +kernel) (by decide +kernel)
theorem aw_498 : (.selects RX4 yX4_stale yX4_stale : Cond) ∈ AW := mem_AW 498 (by decide +kernel) (by decide +kernel)
theorem aw_499 : (wX4_stale : Cond) ∈ AW := mem_AW 499 (by decide +kernel) (by decide +kernel)
theorem aw_500 : (.methodLink RX4 129 yX4_isStale : Cond) ∈ AW := mem_AW 500 (by decide +kernel) (by decide +kernel)
theorem aw_502 : (.instanceMethod yX4_isStale : Cond) ∈ AW := mem_AW 502 (by decide +kernel) (by decide +kernel)
theorem aw_503 : (wX4_isStale : Cond) ∈ AW := mem_AW 503 (by decide +kernel) (by decide +kernel)
theorem aw_504 : (.methodLink RX4 189 yX4_bitsBelow : Cond) ∈ AW := mem_AW 504 (by decide +kernel) (by decide +kernel)
theorem aw_505 : (.classLink RL 56 RX5 : Cond) ∈ AW := mem_AW 505 (by decide +kernel) (by decide +kernel)
theorem aw_506 : (.instantiable RX5 30 : Cond) ∈ AW := mem_AW 506 (by decide +kernel) (by decide +kernel)
theorem aw_507 : (.methodLink RL 58 yX5_init : Cond) ∈ AW := mem_AW 507 (by decide +kernel) (by decide +kernel)
theorem aw_508 : (.instanceMethod yX5_init : Cond) ∈ AW := mem_AW 508 (by decide +kernel) (by decide +kernel)
theorem aw_509 : (wX5_init : Cond) ∈ AW := mem_AW 509 (by decide +kernel) (by decide +kernel)
theorem aw_510 : (.methodLink RX5 1 objectInit : Cond) ∈ AW := mem_AW 510 (by decide +kernel) (by decide +kernel)
theorem aw_511 : (.fieldLink RX5 58 "PageRowsModel" "thrown" "I" : Cond) ∈ AW := mem_AW 511 (by decide +kernel) (by decide +kernel)
theorem aw_512 : (.fieldLink RX5 52 "PageRowsModel" "levels" "I" : Cond) ∈ AW := mem_AW 512 (by decide +kernel) (by decide +kernel)
theorem aw_513 : (.fieldLink RX5 55 "PageRowsModel" "room" "I" : Cond) ∈ AW := mem_AW 513 (by decide +kernel) (by decide +kernel)
theorem aw_514 : (.fieldLink RX5 7 "PageRowsModel" "memory" "[J" : Cond) ∈ AW := mem_AW 514 (by decide +kernel) (by decide +kernel)
theorem aw_515 : (.fieldLink RX5 69 "PageRowsModel" "context" "I" : Cond) ∈ AW := mem_AW 515 (by decide +kernel) (by decide +kernel)
theorem aw_516 : (.fieldLink RX5 13 "PageRowsModel" "roots" "[I" : Cond) ∈ AW := mem_AW 516 (by decide +kernel) (by decide +kernel)
theorem aw_517 : (.fieldLink RX5 17 "PageRowsModel" "hostOf" "[I" : Cond) ∈ AW := mem_AW 517 (by decide +kernel) (by decide +kernel)
theorem aw_518 : (.fieldLink RX5 73 "PageRowsModel" "isHosted" "Z" : Cond) ∈ AW := mem_AW 518 (by decide +kernel) (by decide +kernel)
theorem aw_519 : (.fieldLink RX5 128 "PageRowsModel" "entries" "I" : Cond) ∈ AW := mem_AW 519 (by decide +kernel) (by decide +kernel)
theorem aw_520 : (.fieldLink RX5 134 "PageRowsModel" "uses" "I" : Cond) ∈ AW := mem_AW 520 (by decide +kernel) (by decide +kernel)
theorem aw_521 : (.fieldLink RX5 20 "PageRowsModel" "entryContext" "[I" : Cond) ∈ AW := mem_AW 521 (by decide +kernel) (by decide +kernel)
theorem aw_522 : (.fieldLink RX5 23 "PageRowsModel" "entryLarge" "[I" : Cond) ∈ AW := mem_AW 522 (by decide +kernel) (by decide +kernel)
theorem aw_523 : (.fieldLink RX5 26 "PageRowsModel" "entryBits" "[I" : Cond) ∈ AW := mem_AW 523 (by decide +kernel) (by decide +kernel)
theorem aw_524 : (.fieldLink RX5 29 "PageRowsModel" "entryFrame" "[I" : Cond) ∈ AW := mem_AW 524 (by decide +kernel) (by decide +kernel)
theorem aw_525 : (.fieldLink RX5 32 "PageRowsModel" "entryRights" "[I" : Cond) ∈ AW := mem_AW 525 (by decide +kernel) (by decide +kernel)
theorem aw_526 : (.fieldLink RX5 35 "PageRowsModel" "entryUse" "[I" : Cond) ∈ AW := mem_AW 526 (by decide +kernel) (by decide +kernel)
theorem aw_527 : (.fieldLink RX5 38 "PageRowsModel" "entryChanged" "[Z" : Cond) ∈ AW := mem_AW 527 (by decide +kernel) (by decide +kernel)
theorem aw_528 : (.fieldLink RX5 42 "PageRowsModel" "to" "I" : Cond) ∈ AW := mem_AW 528 (by decide +kernel) (by decide +kernel)
theorem aw_529 : (.fieldLink RX5 46 "PageRowsModel" "faultLevel" "I" : Cond) ∈ AW := mem_AW 529 (by decide +kernel) (by decide +kernel)
theorem aw_530 : (.fieldLink RX5 173 "PageRowsModel" "read" "I" : Cond) ∈ AW := mem_AW 530 (by decide +kernel) (by decide +kernel)
theorem aw_531 : (.fieldLink RX5 154 "PageRowsModel" "byEntries" "I" : Cond) ∈ AW := mem_AW 531 (by decide +kernel) (by decide +kernel)
theorem aw_532 : (.fieldLink RX5 167 "PageRowsModel" "byWalks" "I" : Cond) ∈ AW := mem_AW 532 (by decide +kernel) (by decide +kernel)
theorem aw_533 : (.fieldLink RX5 151 "PageRowsModel" "faults" "I" : Cond) ∈ AW := mem_AW 533 (by decide +kernel) (by decide +kernel)
theorem aw_534 : (.fieldLink RX5 141 "PageRowsModel" "gone" "I" : Cond) ∈ AW := mem_AW 534 (by decide +kernel) (by decide +kernel)
theorem aw_535 : (.fieldLink RX5 78 "PageRowsModel" "fault" "I" : Cond) ∈ AW := mem_AW 535 (by decide +kernel) (by decide +kernel)
theorem aw_536 : (.fieldLink RX5 81 "PageRowsModel" "atLevel" "I" : Cond) ∈ AW := mem_AW 536 (by decide +kernel) (by decide +kernel)
theorem aw_537 : (.fieldLink RX5 101 "PageRowsModel" "many" "I" : Cond) ∈ AW := mem_AW 537 (by decide +kernel) (by decide +kernel)
theorem aw_538 : (.fieldLink RX5 98 "PageRowsModel" "large" "I" : Cond) ∈ AW := mem_AW 538 (by decide +kernel) (by decide +kernel)
theorem aw_539 : (.fieldLink RX5 95 "PageRowsModel" "came" "I" : Cond) ∈ AW := mem_AW 539 (by decide +kernel) (by decide +kernel)
theorem aw_540 : (.fieldLink RX5 49 "PageRowsModel" "wordAt" "[I" : Cond) ∈ AW := mem_AW 540 (by decide +kernel) (by decide +kernel)
theorem aw_602 : (.arrayClass .boolean : Cond) ∈ AW := mem_AW 602 (by decide +kernel) (by decide +kernel)
theorem aw_603 : (.methodLink RL 65 yX5_thrown : Cond) ∈ AW := mem_AW 603 (by decide +kernel) (by decide +kernel)
theorem aw_604 : (.instanceMethod yX5_thrown : Cond) ∈ AW := mem_AW 604 (by decide +kernel) (by decide +kernel)
theorem aw_605 : (.selects RX5 yX5_thrown yX5_thrown : Cond) ∈ AW := mem_AW 605 (by decide +kernel) (by decide +kernel)
theorem aw_606 : (wX5_thrown : Cond) ∈ AW := mem_AW 606 (by decide +kernel) (by decide +kernel)
theorem aw_607 : (.methodLink RL 64 yX5_table : Cond) ∈ AW := mem_AW 607 (by decide +kernel) (by decide +kernel)
theorem aw_608 : (.instanceMethod yX5_table : Cond) ∈ AW := mem_AW 608 (by decide +kernel) (by decide +kernel)
theorem aw_609 : (.selects RX5 yX5_table yX5_table : Cond) ∈ AW := mem_AW 609 (by decide +kernel) (by decide +kernel)
theorem aw_610 : (wX5_table : Cond) ∈ AW := mem_AW 610 (by decide +kernel) (by decide +kernel)
theorem aw_611 : (.methodLink RX5 61 yX5_isOf : Cond) ∈ AW := mem_AW 611 (by decide +kernel) (by decide +kernel)
theorem aw_612 : (.static yX5_isOf : Cond) ∈ AW := mem_AW 612 (by decide +kernel) (by decide +kernel)
theorem aw_613 : (wX5_isOf : Cond) ∈ AW := mem_AW 613 (by decide +kernel) (by decide +kernel)
theorem aw_614 : (.methodLink RX5 65 yX5_throwing : Cond) ∈ AW := mem_AW 614 (by decide +kernel) (by decide +kernel)
theorem aw_616 : (.instanceMethod yX5_throwing : Cond) ∈ AW := mem_AW 616 (by decide +kernel) (by decide +kernel)
theorem aw_617 : (wX5_throwing : Cond) ∈ AW := mem_AW 617 (by decide +kernel) (by decide +kernel)
theorem aw_618 : (.methodLink RL 72 yX5_word : Cond) ∈ AW := mem_AW 618 (by decide +kernel) (by decide +kernel)
theorem aw_619 : (.instanceMethod yX5_word : Cond) ∈ AW := mem_AW 619 (by decide +kernel) (by decide +kernel)
theorem aw_620 : (.selects RX5 yX5_word yX5_word : Cond) ∈ AW := mem_AW 620 (by decide +kernel) (by decide +kernel)
theorem aw_621 : (wX5_word : Cond) ∈ AW := mem_AW 621 (by decide +kernel) (by decide +kernel)
theorem aw_622 : (.methodLink RL 75 yX5_context : Cond) ∈ AW := mem_AW 622 (by decide +kernel) (by decide +kernel)
theorem aw_623 : (.instanceMethod yX5_context : Cond) ∈ AW := mem_AW 623 (by decide +kernel) (by decide +kernel)
theorem aw_624 : (.selects RX5 yX5_context yX5_context : Cond) ∈ AW := mem_AW 624 (by decide +kernel) (by decide +kernel)
theorem aw_625 : (wX5_context : Cond) ∈ AW := mem_AW 625 (by decide +kernel) (by decide +kernel)
theorem aw_626 : (.methodLink RL 79 yX5_root : Cond) ∈ AW := mem_AW 626 (by decide +kernel) (by decide +kernel)
theorem aw_627 : (.instanceMethod yX5_root : Cond) ∈ AW := mem_AW 627 (by decide +kernel) (by decide +kernel)
theorem aw_628 : (.selects RX5 yX5_root yX5_root : Cond) ∈ AW := mem_AW 628 (by decide +kernel) (by decide +kernel)
theorem aw_629 : (wX5_root : Cond) ∈ AW := mem_AW 629 (by decide +kernel) (by decide +kernel)
theorem aw_630 : (.methodLink RL 82 yX5_host : Cond) ∈ AW := mem_AW 630 (by decide +kernel) (by decide +kernel)
theorem aw_631 : (.instanceMethod yX5_host : Cond) ∈ AW := mem_AW 631 (by decide +kernel) (by decide +kernel)
theorem aw_632 : (.selects RX5 yX5_host yX5_host : Cond) ∈ AW := mem_AW 632 (by decide +kernel) (by decide +kernel)
theorem aw_633 : (wX5_host : Cond) ∈ AW := mem_AW 633 (by decide +kernel) (by decide +kernel)
theorem aw_634 : (.constant RX5 72 65535 : Cond) ∈ AW := mem_AW 634 (by decide +kernel) (by decide +kernel)
theorem aw_635 : (.methodLink RL 87 yX5_hosts : Cond) ∈ AW := mem_AW 635 (by decide +kernel) (by decide +kernel)
theorem aw_636 : (.instanceMethod yX5_hosts : Cond) ∈ AW := mem_AW 636 (by decide +kernel) (by decide +kernel)
theorem aw_637 : (.selects RX5 yX5_hosts yX5_hosts : Cond) ∈ AW := mem_AW 637 (by decide +kernel) (by decide +kernel)
theorem aw_638 : (wX5_hosts : Cond) ∈ AW := mem_AW 638 (by decide +kernel) (by decide +kernel)
theorem aw_639 : (.methodLink RL 90 yX5_walk : Cond) ∈ AW := mem_AW 639 (by decide +kernel) (by decide +kernel)
theorem aw_640 : (.instanceMethod yX5_walk : Cond) ∈ AW := mem_AW 640 (by decide +kernel) (by decide +kernel)
theorem aw_641 : (.selects RX5 yX5_walk yX5_walk : Cond) ∈ AW := mem_AW 641 (by decide +kernel) (by decide +kernel)
theorem aw_642 : (wX5_walk : Cond) ∈ AW := mem_AW 642 (by decide +kernel) (by decide +kernel)
theorem aw_643 : (.methodLink RX5 116 yX5_isOutside : Cond) ∈ AW := mem_AW 643 (by decide +kernel) (by decide +kernel)
theorem aw_645 : (.instanceMethod yX5_isOutside : Cond) ∈ AW := mem_AW 645 (by decide +kernel) (by decide +kernel)
theorem aw_646 : (wX5_isOutside : Cond) ∈ AW := mem_AW 646 (by decide +kernel) (by decide +kernel)
theorem aw_647 : (.methodLink RX5 157 yX5_entryFor : Cond) ∈ AW := mem_AW 647 (by decide +kernel) (by decide +kernel)
theorem aw_649 : (.instanceMethod yX5_entryFor : Cond) ∈ AW := mem_AW 649 (by decide +kernel) (by decide +kernel)
theorem aw_650 : (wX5_entryFor : Cond) ∈ AW := mem_AW 650 (by decide +kernel) (by decide +kernel)
theorem aw_651 : (.methodLink RX5 131 yX5_fits : Cond) ∈ AW := mem_AW 651 (by decide +kernel) (by decide +kernel)
theorem aw_653 : (.instanceMethod yX5_fits : Cond) ∈ AW := mem_AW 653 (by decide +kernel) (by decide +kernel)
theorem aw_654 : (wX5_fits : Cond) ∈ AW := mem_AW 654 (by decide +kernel) (by decide +kernel)
theorem aw_655 : (.methodLink RX5 113 yX5_does : Cond) ∈ AW := mem_AW 655 (by decide +kernel) (by decide +kernel)
theorem aw_656 : (.static yX5_does : Cond) ∈ AW := mem_AW 656 (by decide +kernel) (by decide +kernel)
theorem aw_657 : (wX5_does : Cond) ∈ AW := mem_AW 657 (by decide +kernel) (by decide +kernel)
theorem aw_658 : (.methodLink RX5 160 yX5_byEntry : Cond) ∈ AW := mem_AW 658 (by decide +kernel) (by decide +kernel)
theorem aw_660 : (.instanceMethod yX5_byEntry : Cond) ∈ AW := mem_AW 660 (by decide +kernel) (by decide +kernel)
theorem aw_661 : (wX5_byEntry : Cond) ∈ AW := mem_AW 661 (by decide +kernel) (by decide +kernel)
theorem aw_662 : (.methodLink RX5 146 yX5_use : Cond) ∈ AW := mem_AW 662 (by decide +kernel) (by decide +kernel)
theorem aw_664 : (.instanceMethod yX5_use : Cond) ∈ AW := mem_AW 664 (by decide +kernel) (by decide +kernel)
theorem aw_665 : (wX5_use : Cond) ∈ AW := mem_AW 665 (by decide +kernel) (by decide +kernel)
theorem aw_666 : (.methodLink RX5 92 yX5_fails : Cond) ∈ AW := mem_AW 666 (by decide +kernel) (by decide +kernel)
theorem aw_668 : (.instanceMethod yX5_fails : Cond) ∈ AW := mem_AW 668 (by decide +kernel) (by decide +kernel)
theorem aw_669 : (wX5_fails : Cond) ∈ AW := mem_AW 669 (by decide +kernel) (by decide +kernel)
theorem aw_670 : (.methodLink RX5 124 yX5_ends : Cond) ∈ AW := mem_AW 670 (by decide +kernel) (by decide +kernel)
theorem aw_672 : (.instanceMethod yX5_ends : Cond) ∈ AW := mem_AW 672 (by decide +kernel) (by decide +kernel)
theorem aw_673 : (wX5_ends : Cond) ∈ AW := mem_AW 673 (by decide +kernel) (by decide +kernel)
theorem aw_674 : (.methodLink RX5 84 yX5_behind : Cond) ∈ AW := mem_AW 674 (by decide +kernel) (by decide +kernel)
theorem aw_675 : (.static yX5_behind : Cond) ∈ AW := mem_AW 675 (by decide +kernel) (by decide +kernel)
theorem aw_676 : (wX5_behind : Cond) ∈ AW := mem_AW 676 (by decide +kernel) (by decide +kernel)
theorem aw_677 : (.methodLink RX5 88 yX5_mapped : Cond) ∈ AW := mem_AW 677 (by decide +kernel) (by decide +kernel)
theorem aw_679 : (.instanceMethod yX5_mapped : Cond) ∈ AW := mem_AW 679 (by decide +kernel) (by decide +kernel)
theorem aw_680 : (wX5_mapped : Cond) ∈ AW := mem_AW 680 (by decide +kernel) (by decide +kernel)
theorem aw_681 : (.methodLink RX5 163 yX5_told : Cond) ∈ AW := mem_AW 681 (by decide +kernel) (by decide +kernel)
theorem aw_683 : (.instanceMethod yX5_told : Cond) ∈ AW := mem_AW 683 (by decide +kernel) (by decide +kernel)
theorem aw_684 : (wX5_told : Cond) ∈ AW := mem_AW 684 (by decide +kernel) (by decide +kernel)
theorem aw_685 : (.methodLink RX5 170 yX5_walks : Cond) ∈ AW := mem_AW 685 (by decide +kernel) (by decide +kernel)
theorem aw_687 : (.instanceMethod yX5_walks : Cond) ∈ AW := mem_AW 687 (by decide +kernel) (by decide +kernel)
theorem aw_688 : (wX5_walks : Cond) ∈ AW := mem_AW 688 (by decide +kernel) (by decide +kernel)
theorem aw_689 : (.methodLink RX5 120 yX5_goes : Cond) ∈ AW := mem_AW 689 (by decide +kernel) (by decide +kernel)
theorem aw_691 : (.instanceMethod yX5_goes : Cond) ∈ AW := mem_AW 691 (by decide +kernel) (by decide +kernel)
theorem aw_692 : (wX5_goes : Cond) ∈ AW := mem_AW 692 (by decide +kernel) (by decide +kernel)
theorem aw_693 : (.constantLong RX5 104 32 : Cond) ∈ AW := mem_AW 693 (by decide +kernel) (by decide +kernel)
theorem aw_694 : (.methodLink RX5 106 yX5_frameOf : Cond) ∈ AW := mem_AW 694 (by decide +kernel) (by decide +kernel)
theorem aw_695 : (.static yX5_frameOf : Cond) ∈ AW := mem_AW 695 (by decide +kernel) (by decide +kernel)
theorem aw_696 : (wX5_frameOf : Cond) ∈ AW := mem_AW 696 (by decide +kernel) (by decide +kernel)
theorem aw_697 : (.constant RX5 77 1048575 : Cond) ∈ AW := mem_AW 697 (by decide +kernel) (by decide +kernel)
theorem aw_698 : (.methodLink RX5 110 yX5_rightsOf : Cond) ∈ AW := mem_AW 698 (by decide +kernel) (by decide +kernel)
theorem aw_699 : (.static yX5_rightsOf : Cond) ∈ AW := mem_AW 699 (by decide +kernel) (by decide +kernel)
theorem aw_700 : (wX5_rightsOf : Cond) ∈ AW := mem_AW 700 (by decide +kernel) (by decide +kernel)
theorem aw_701 : (.methodLink RX5 176 yX5_mark : Cond) ∈ AW := mem_AW 701 (by decide +kernel) (by decide +kernel)
theorem aw_703 : (.instanceMethod yX5_mark : Cond) ∈ AW := mem_AW 703 (by decide +kernel) (by decide +kernel)
theorem aw_704 : (wX5_mark : Cond) ∈ AW := mem_AW 704 (by decide +kernel) (by decide +kernel)
theorem aw_705 : (.constantLong RX5 149 64 : Cond) ∈ AW := mem_AW 705 (by decide +kernel) (by decide +kernel)
theorem aw_706 : (.constantLong RX5 144 128 : Cond) ∈ AW := mem_AW 706 (by decide +kernel) (by decide +kernel)
theorem aw_707 : (.methodLink RX5 179 yX5_keep : Cond) ∈ AW := mem_AW 707 (by decide +kernel) (by decide +kernel)
theorem aw_709 : (.instanceMethod yX5_keep : Cond) ∈ AW := mem_AW 709 (by decide +kernel) (by decide +kernel)
theorem aw_710 : (wX5_keep : Cond) ∈ AW := mem_AW 710 (by decide +kernel) (by decide +kernel)
theorem aw_711 : (.methodLink RX5 137 yX5_drop : Cond) ∈ AW := mem_AW 711 (by decide +kernel) (by decide +kernel)
theorem aw_713 : (.instanceMethod yX5_drop : Cond) ∈ AW := mem_AW 713 (by decide +kernel) (by decide +kernel)
theorem aw_714 : (wX5_drop : Cond) ∈ AW := mem_AW 714 (by decide +kernel) (by decide +kernel)
theorem aw_715 : (.methodLink RL 94 yX5_to : Cond) ∈ AW := mem_AW 715 (by decide +kernel) (by decide +kernel)
theorem aw_716 : (.instanceMethod yX5_to : Cond) ∈ AW := mem_AW 716 (by decide +kernel) (by decide +kernel)
theorem aw_717 : (.selects RX5 yX5_to yX5_to : Cond) ∈ AW := mem_AW 717 (by decide +kernel) (by decide +kernel)
theorem aw_718 : (wX5_to : Cond) ∈ AW := mem_AW 718 (by decide +kernel) (by decide +kernel)
theorem aw_719 : (.methodLink RL 98 yX5_level : Cond) ∈ AW := mem_AW 719 (by decide +kernel) (by decide +kernel)
theorem aw_720 : (.instanceMethod yX5_level : Cond) ∈ AW := mem_AW 720 (by decide +kernel) (by decide +kernel)
theorem aw_721 : (.selects RX5 yX5_level yX5_level : Cond) ∈ AW := mem_AW 721 (by decide +kernel) (by decide +kernel)
theorem aw_722 : (wX5_level : Cond) ∈ AW := mem_AW 722 (by decide +kernel) (by decide +kernel)
theorem aw_723 : (.methodLink RL 101 yX5_plain : Cond) ∈ AW := mem_AW 723 (by decide +kernel) (by decide +kernel)
theorem aw_724 : (.instanceMethod yX5_plain : Cond) ∈ AW := mem_AW 724 (by decide +kernel) (by decide +kernel)
theorem aw_725 : (.selects RX5 yX5_plain yX5_plain : Cond) ∈ AW := mem_AW 725 (by decide +kernel) (by decide +kernel)
theorem aw_726 : (wX5_plain : Cond) ∈ AW := mem_AW 726 (by decide +kernel) (by decide +kernel)
theorem aw_727 : (.methodLink RL 104 yX5_flush : Cond) ∈ AW := mem_AW 727 (by decide +kernel) (by decide +kernel)
theorem aw_728 : (.instanceMethod yX5_flush : Cond) ∈ AW := mem_AW 728 (by decide +kernel) (by decide +kernel)
theorem aw_729 : (.selects RX5 yX5_flush yX5_flush : Cond) ∈ AW := mem_AW 729 (by decide +kernel) (by decide +kernel)
theorem aw_730 : (wX5_flush : Cond) ∈ AW := mem_AW 730 (by decide +kernel) (by decide +kernel)
theorem aw_731 : (.methodLink RL 107 yX5_kept : Cond) ∈ AW := mem_AW 731 (by decide +kernel) (by decide +kernel)
theorem aw_732 : (.instanceMethod yX5_kept : Cond) ∈ AW := mem_AW 732 (by decide +kernel) (by decide +kernel)
theorem aw_733 : (.selects RX5 yX5_kept yX5_kept : Cond) ∈ AW := mem_AW 733 (by decide +kernel) (by decide +kernel)
theorem aw_734 : (wX5_kept : Cond) ∈ AW := mem_AW 734 (by decide +kernel) (by decide +kernel)
theorem aw_735 : (.methodLink RX5 182 yX5_inOrder : Cond) ∈ AW := mem_AW 735 (by decide +kernel) (by decide +kernel)
theorem aw_737 : (.instanceMethod yX5_inOrder : Cond) ∈ AW := mem_AW 737 (by decide +kernel) (by decide +kernel)
theorem aw_738 : (wX5_inOrder : Cond) ∈ AW := mem_AW 738 (by decide +kernel) (by decide +kernel)
theorem aw_739 : (.methodLink RL 110 yX5_stale : Cond) ∈ AW := mem_AW 739 (by decide +kernel) (by decide +kernel)
theorem aw_740 : (.instanceMethod yX5_stale : Cond) ∈ AW := mem_AW 740 (by decide +kernel) (by decide +kernel)
theorem aw_741 : (.selects RX5 yX5_stale yX5_stale : Cond) ∈ AW := mem_AW 741 (by decide +kernel) (by decide +kernel)
theorem aw_742 : (wX5_stale : Cond) ∈ AW := mem_AW 742 (by decide +kernel) (by decide +kernel)
theorem aw_743 : (.methodLink RX5 185 yX5_isStale : Cond) ∈ AW := mem_AW 743 (by decide +kernel) (by decide +kernel)
theorem aw_745 : (.instanceMethod yX5_isStale : Cond) ∈ AW := mem_AW 745 (by decide +kernel) (by decide +kernel)
theorem aw_746 : (wX5_isStale : Cond) ∈ AW := mem_AW 746 (by decide +kernel) (by decide +kernel)
theorem aw_747 : (.methodLink RL 114 yX5_count : Cond) ∈ AW := mem_AW 747 (by decide +kernel) (by decide +kernel)
theorem aw_748 : (.instanceMethod yX5_count : Cond) ∈ AW := mem_AW 748 (by decide +kernel) (by decide +kernel)
theorem aw_749 : (.selects RX5 yX5_count yX5_count : Cond) ∈ AW := mem_AW 749 (by decide +kernel) (by decide +kernel)
theorem aw_750 : (wX5_count : Cond) ∈ AW := mem_AW 750 (by decide +kernel) (by decide +kernel)
theorem aw_751 : (.constantLong RL 59 4294967295 : Cond) ∈ AW := mem_AW 751 (by decide +kernel) (by decide +kernel)
theorem inA_X0 : ∀ w ∈ u_ws RX0 TX0 3, w ∈ AW := by
  intro w hw
  have h := (by decide +kernel : (u_ws RX0 TX0 3).all (fun w => decide (w ∈ lw_tbl) && goodWord w) = true)
  have h1 := List.all_eq_true.mp h w hw
  simp only [Bool.and_eq_true, decide_eq_true_eq] at h1
  exact List.mem_filter.mpr h1
theorem inA_X1 : ∀ w ∈ u_ws RX1 TX1 6, w ∈ AW := by
  intro w hw
  have h := (by decide +kernel : (u_ws RX1 TX1 6).all (fun w => decide (w ∈ lw_tbl) && goodWord w) = true)
  have h1 := List.all_eq_true.mp h w hw
  simp only [Bool.and_eq_true, decide_eq_true_eq] at h1
  exact List.mem_filter.mpr h1
theorem inA_X2 : ∀ w ∈ u_ws RX2 TX2 3, w ∈ AW := by
  intro w hw
  have h := (by decide +kernel : (u_ws RX2 TX2 3).all (fun w => decide (w ∈ lw_tbl) && goodWord w) = true)
  have h1 := List.all_eq_true.mp h w hw
  simp only [Bool.and_eq_true, decide_eq_true_eq] at h1
  exact List.mem_filter.mpr h1
theorem inA_X3 : ∀ w ∈ u_ws RX3 TX3 8, w ∈ AW := by
  intro w hw
  have h := (by decide +kernel : (u_ws RX3 TX3 8).all (fun w => decide (w ∈ lw_tbl) && goodWord w) = true)
  have h1 := List.all_eq_true.mp h w hw
  simp only [Bool.and_eq_true, decide_eq_true_eq] at h1
  exact List.mem_filter.mpr h1
theorem inA_X4 : ∀ w ∈ u_ws RX4 TX4 12, w ∈ AW := by
  intro w hw
  have h := (by decide +kernel : (u_ws RX4 TX4 12).all (fun w => decide (w ∈ lw_tbl) && goodWord w) = true)
  have h1 := List.all_eq_true.mp h w hw
  simp only [Bool.and_eq_true, decide_eq_true_eq] at h1
  exact List.mem_filter.mpr h1
theorem inA_X5 : ∀ w ∈ u_ws RX5 TX5 30, w ∈ AW := by
  intro w hw
  have h := (by decide +kernel : (u_ws RX5 TX5 30).all (fun w => decide (w ∈ lw_tbl) && goodWord w) = true)
  have h1 := List.all_eq_true.mp h w hw
  simp only [Bool.and_eq_true, decide_eq_true_eq] at h1
  exact List.mem_filter.mpr h1
def nestF : List (String × Nat × String × String × String × String) := [(RX4, 58, "PageRows$Memory", "words", "[J", "PageRows"), (RX3, 72, "PageRows$Memory", "words", "[J", "PageRows"), (RX4, 72, "PageRows$Memory", "hosts", "[I", "PageRows"), (RX4, 75, "PageRows$Memory", "hostsOn", "Z", "PageRows"), (RX4, 147, "PageRows$Path", "reads", "I", "PageRows"), (RX0, 46, "PageRows$Path", "leaf", "J", "PageRows"), (RX0, 26, "PageRows$Path", "largeness", "I", "PageRows"), (RX4, 161, "PageRows$Path", "faultLevel", "I", "PageRows"), (RX4, 107, "PageRows$Path", "reached", "I", "PageRows"), (RX0, 35, "PageRows$Entry", "context", "I", "PageRows"), (RX4, 128, "PageRows$Entry", "context", "I", "PageRows"), (RX0, 38, "PageRows$Entry", "largeness", "I", "PageRows"), (RX4, 180, "PageRows$Entry", "largeness", "I", "PageRows"), (RX0, 43, "PageRows$Entry", "bits", "I", "PageRows"), (RX4, 186, "PageRows$Entry", "bits", "I", "PageRows"), (RX0, 54, "PageRows$Entry", "frame", "I", "PageRows"), (RX4, 177, "PageRows$Entry", "frame", "I", "PageRows"), (RX0, 60, "PageRows$Entry", "rights", "I", "PageRows"), (RX4, 170, "PageRows$Entry", "rights", "I", "PageRows"), (RX0, 65, "PageRows$Entry", "changed", "Z", "PageRows"), (RX4, 192, "PageRows$Entry", "changed", "Z", "PageRows"), (RX4, 89, "PageRows$Entries", "rows", "[LPageRows$Entry;", "PageRows"), (RX4, 115, "PageRows$Entries", "size", "I", "PageRows"), (RX4, 144, "PageRows$Entries", "crowdedOut", "I", "PageRows")]
def nestM : List (String × Nat × MethodName × String) := [(RX4, 15, yX2_init, "PageRows"), (RX4, 22, yX3_init, "PageRows"), (RX4, 31, yX0_init, "PageRows"), (RX0, 17, yX1_init, "PageRows"), (RX4, 85, yX0_find, "PageRows"), (RX0, 22, yX1_standsFor, "PageRows"), (RX1, 19, yX4_bitsBelow, "PageRows"), (RX4, 104, yX3_follow, "PageRows"), (RX3, 40, yX4_bitsBelow, "PageRows"), (RX3, 69, yX2_homeOf, "PageRows"), (RX3, 51, yX4_frameOf, "PageRows"), (RX3, 76, yX4_rightsOf, "PageRows"), (RX3, 79, yX4_allows, "PageRows"), (RX3, 63, yX2_reach, "PageRows"), (RX2, 23, yX4_bitsBelow, "PageRows"), (RX4, 153, yX3_mark, "PageRows"), (RX4, 157, yX0_keep, "PageRows"), (RX0, 39, yX4_bitsBelow, "PageRows"), (RX0, 50, yX4_frameOf, "PageRows"), (RX0, 57, yX4_rightsOf, "PageRows"), (RX4, 167, yX0_use, "PageRows"), (RX4, 183, yX2_reach, "PageRows"), (RX4, 112, yX0_forget, "PageRows"), (RX4, 122, yX1_part, "PageRows")]
end
