section
-- ===== PART A: goes FIRST, ahead of the names: the tables' words, and 'selects' of the private methods out of them =====
/-- a private method of a class that the tables say can be made, by its rows of tables_1 -/
def lw_okq (q : MethodName × Nat) : Prop := (q.1.cls ≠ "java/lang/invoke/MethodHandle" ∧ q.1.cls ≠ "java/lang/invoke/VarHandle") ∧ Cond.instantiable q.1.cls q.2 ∈ tables_1 ∧ Cond.privateMethod q.1 ∈ tables_1 ∧ Cond.instanceMethod q.1 ∈ tables_1
theorem lw_p0 : lw_okq (⟨"java/lang/Throwable", "fillInStackTrace", "(I)Ljava/lang/Throwable;"⟩, 6) := ⟨⟨by decide +kernel, by decide +kernel⟩, List.mem_of_getElem? (i := 237) (by decide +kernel), List.mem_of_getElem? (i := 235) (by decide +kernel), List.mem_of_getElem? (i := 236) (by decide +kernel)⟩
theorem lw_p1 : lw_okq (⟨"PageRows$Entries", "find", "(II)I"⟩, 3) := ⟨⟨by decide +kernel, by decide +kernel⟩, List.mem_of_getElem? (i := 79) (by decide +kernel), List.mem_of_getElem? (i := 326) (by decide +kernel), List.mem_of_getElem? (i := 327) (by decide +kernel)⟩
theorem lw_p2 : lw_okq (⟨"PageRows$Entry", "standsFor", "(II)Z"⟩, 6) := ⟨⟨by decide +kernel, by decide +kernel⟩, List.mem_of_getElem? (i := 86) (by decide +kernel), List.mem_of_getElem? (i := 330) (by decide +kernel), List.mem_of_getElem? (i := 331) (by decide +kernel)⟩
theorem lw_p3 : lw_okq (⟨"PageRows", "translateByTables", "(II)I"⟩, 12) := ⟨⟨by decide +kernel, by decide +kernel⟩, List.mem_of_getElem? (i := 13) (by decide +kernel), List.mem_of_getElem? (i := 346) (by decide +kernel), List.mem_of_getElem? (i := 347) (by decide +kernel)⟩
theorem lw_p4 : lw_okq (⟨"PageRows$Path", "follow", "(III)I"⟩, 8) := ⟨⟨by decide +kernel, by decide +kernel⟩, List.mem_of_getElem? (i := 43) (by decide +kernel), List.mem_of_getElem? (i := 350) (by decide +kernel), List.mem_of_getElem? (i := 351) (by decide +kernel)⟩
theorem lw_p5 : lw_okq (⟨"PageRows$Path", "isOutside", "(I)Z"⟩, 8) := ⟨⟨by decide +kernel, by decide +kernel⟩, List.mem_of_getElem? (i := 43) (by decide +kernel), List.mem_of_getElem? (i := 354) (by decide +kernel), List.mem_of_getElem? (i := 355) (by decide +kernel)⟩
theorem lw_p6 : lw_okq (⟨"PageRows$Path", "stop", "(II)I"⟩, 8) := ⟨⟨by decide +kernel, by decide +kernel⟩, List.mem_of_getElem? (i := 43) (by decide +kernel), List.mem_of_getElem? (i := 359) (by decide +kernel), List.mem_of_getElem? (i := 360) (by decide +kernel)⟩
theorem lw_p7 : lw_okq (⟨"PageRows$Path", "read", "(II)I"⟩, 8) := ⟨⟨by decide +kernel, by decide +kernel⟩, List.mem_of_getElem? (i := 43) (by decide +kernel), List.mem_of_getElem? (i := 363) (by decide +kernel), List.mem_of_getElem? (i := 364) (by decide +kernel)⟩
theorem lw_p8 : lw_okq (⟨"PageRows$Memory", "homeOf", "(I)I"⟩, 3) := ⟨⟨by decide +kernel, by decide +kernel⟩, List.mem_of_getElem? (i := 21) (by decide +kernel), List.mem_of_getElem? (i := 367) (by decide +kernel), List.mem_of_getElem? (i := 368) (by decide +kernel)⟩
theorem lw_p9 : lw_okq (⟨"PageRows$Path", "leafFault", "(I)I"⟩, 8) := ⟨⟨by decide +kernel, by decide +kernel⟩, List.mem_of_getElem? (i := 43) (by decide +kernel), List.mem_of_getElem? (i := 376) (by decide +kernel), List.mem_of_getElem? (i := 377) (by decide +kernel)⟩
theorem lw_p10 : lw_okq (⟨"PageRows$Memory", "reach", "(III)I"⟩, 3) := ⟨⟨by decide +kernel, by decide +kernel⟩, List.mem_of_getElem? (i := 21) (by decide +kernel), List.mem_of_getElem? (i := 384) (by decide +kernel), List.mem_of_getElem? (i := 385) (by decide +kernel)⟩
theorem lw_p11 : lw_okq (⟨"PageRows$Path", "mark", "(Z)V"⟩, 8) := ⟨⟨by decide +kernel, by decide +kernel⟩, List.mem_of_getElem? (i := 43) (by decide +kernel), List.mem_of_getElem? (i := 390) (by decide +kernel), List.mem_of_getElem? (i := 391) (by decide +kernel)⟩
theorem lw_p12 : lw_okq (⟨"PageRows$Entries", "keep", "(IILPageRows$Path;)V"⟩, 3) := ⟨⟨by decide +kernel, by decide +kernel⟩, List.mem_of_getElem? (i := 79) (by decide +kernel), List.mem_of_getElem? (i := 396) (by decide +kernel), List.mem_of_getElem? (i := 397) (by decide +kernel)⟩
theorem lw_p13 : lw_okq (⟨"PageRows$Entries", "rowFor", "(III)I"⟩, 3) := ⟨⟨by decide +kernel, by decide +kernel⟩, List.mem_of_getElem? (i := 79) (by decide +kernel), List.mem_of_getElem? (i := 400) (by decide +kernel), List.mem_of_getElem? (i := 401) (by decide +kernel)⟩
theorem lw_p14 : lw_okq (⟨"PageRows$Entries", "use", "(I)V"⟩, 3) := ⟨⟨by decide +kernel, by decide +kernel⟩, List.mem_of_getElem? (i := 79) (by decide +kernel), List.mem_of_getElem? (i := 408) (by decide +kernel), List.mem_of_getElem? (i := 409) (by decide +kernel)⟩
theorem lw_p15 : lw_okq (⟨"PageRows", "finish", "(III)I"⟩, 12) := ⟨⟨by decide +kernel, by decide +kernel⟩, List.mem_of_getElem? (i := 13) (by decide +kernel), List.mem_of_getElem? (i := 412) (by decide +kernel), List.mem_of_getElem? (i := 413) (by decide +kernel)⟩
def lw_privs_1 : List (MethodName × Nat) := [(⟨"java/lang/Throwable", "fillInStackTrace", "(I)Ljava/lang/Throwable;"⟩, 6), (⟨"PageRows$Entries", "find", "(II)I"⟩, 3), (⟨"PageRows$Entry", "standsFor", "(II)Z"⟩, 6), (⟨"PageRows", "translateByTables", "(II)I"⟩, 12), (⟨"PageRows$Path", "follow", "(III)I"⟩, 8), (⟨"PageRows$Path", "isOutside", "(I)Z"⟩, 8), (⟨"PageRows$Path", "stop", "(II)I"⟩, 8), (⟨"PageRows$Path", "read", "(II)I"⟩, 8), (⟨"PageRows$Memory", "homeOf", "(I)I"⟩, 3), (⟨"PageRows$Path", "leafFault", "(I)I"⟩, 8), (⟨"PageRows$Memory", "reach", "(III)I"⟩, 3), (⟨"PageRows$Path", "mark", "(Z)V"⟩, 8), (⟨"PageRows$Entries", "keep", "(IILPageRows$Path;)V"⟩, 3), (⟨"PageRows$Entries", "rowFor", "(III)I"⟩, 3), (⟨"PageRows$Entries", "use", "(I)V"⟩, 3), (⟨"PageRows", "finish", "(III)I"⟩, 12)]
theorem lw_r1 : ∀ q ∈ lw_privs_1, lw_okq q := List.forall_mem_cons.mpr ⟨lw_p0, List.forall_mem_cons.mpr ⟨lw_p1, List.forall_mem_cons.mpr ⟨lw_p2, List.forall_mem_cons.mpr ⟨lw_p3, List.forall_mem_cons.mpr ⟨lw_p4, List.forall_mem_cons.mpr ⟨lw_p5, List.forall_mem_cons.mpr ⟨lw_p6, List.forall_mem_cons.mpr ⟨lw_p7, List.forall_mem_cons.mpr ⟨lw_p8, List.forall_mem_cons.mpr ⟨lw_p9, List.forall_mem_cons.mpr ⟨lw_p10, List.forall_mem_cons.mpr ⟨lw_p11, List.forall_mem_cons.mpr ⟨lw_p12, List.forall_mem_cons.mpr ⟨lw_p13, List.forall_mem_cons.mpr ⟨lw_p14, List.forall_mem_cons.mpr ⟨lw_p15, fun _ h => absurd h List.not_mem_nil⟩⟩⟩⟩⟩⟩⟩⟩⟩⟩⟩⟩⟩⟩⟩⟩
theorem lw_p16 : lw_okq (⟨"PageRows", "translateByEntry", "(III)I"⟩, 12) := ⟨⟨by decide +kernel, by decide +kernel⟩, List.mem_of_getElem? (i := 13) (by decide +kernel), List.mem_of_getElem? (i := 416) (by decide +kernel), List.mem_of_getElem? (i := 417) (by decide +kernel)⟩
theorem lw_p17 : lw_okq (⟨"PageRows$Entries", "forget", "(III)I"⟩, 3) := ⟨⟨by decide +kernel, by decide +kernel⟩, List.mem_of_getElem? (i := 79) (by decide +kernel), List.mem_of_getElem? (i := 437) (by decide +kernel), List.mem_of_getElem? (i := 438) (by decide +kernel)⟩
theorem lw_p18 : lw_okq (⟨"PageRows$Entry", "part", "(I)I"⟩, 6) := ⟨⟨by decide +kernel, by decide +kernel⟩, List.mem_of_getElem? (i := 86) (by decide +kernel), List.mem_of_getElem? (i := 453) (by decide +kernel), List.mem_of_getElem? (i := 454) (by decide +kernel)⟩
theorem lw_p19 : lw_okq (⟨"PageRows", "isStale", "(LPageRows$Entry;I)Z"⟩, 12) := ⟨⟨by decide +kernel, by decide +kernel⟩, List.mem_of_getElem? (i := 13) (by decide +kernel), List.mem_of_getElem? (i := 464) (by decide +kernel), List.mem_of_getElem? (i := 465) (by decide +kernel)⟩
theorem lw_p20 : lw_okq (⟨"PageRowsModel", "throwing", "(ZZ)Z"⟩, 30) := ⟨⟨by decide +kernel, by decide +kernel⟩, List.mem_of_getElem? (i := 469) (by decide +kernel), List.mem_of_getElem? (i := 578) (by decide +kernel), List.mem_of_getElem? (i := 579) (by decide +kernel)⟩
theorem lw_p21 : lw_okq (⟨"PageRowsModel", "isOutside", "(I)Z"⟩, 30) := ⟨⟨by decide +kernel, by decide +kernel⟩, List.mem_of_getElem? (i := 469) (by decide +kernel), List.mem_of_getElem? (i := 607) (by decide +kernel), List.mem_of_getElem? (i := 608) (by decide +kernel)⟩
theorem lw_p22 : lw_okq (⟨"PageRowsModel", "entryFor", "(I)I"⟩, 30) := ⟨⟨by decide +kernel, by decide +kernel⟩, List.mem_of_getElem? (i := 469) (by decide +kernel), List.mem_of_getElem? (i := 611) (by decide +kernel), List.mem_of_getElem? (i := 612) (by decide +kernel)⟩
theorem lw_p23 : lw_okq (⟨"PageRowsModel", "fits", "(II)Z"⟩, 30) := ⟨⟨by decide +kernel, by decide +kernel⟩, List.mem_of_getElem? (i := 469) (by decide +kernel), List.mem_of_getElem? (i := 615) (by decide +kernel), List.mem_of_getElem? (i := 616) (by decide +kernel)⟩
theorem lw_p24 : lw_okq (⟨"PageRowsModel", "byEntry", "(III)Z"⟩, 30) := ⟨⟨by decide +kernel, by decide +kernel⟩, List.mem_of_getElem? (i := 469) (by decide +kernel), List.mem_of_getElem? (i := 622) (by decide +kernel), List.mem_of_getElem? (i := 623) (by decide +kernel)⟩
theorem lw_p25 : lw_okq (⟨"PageRowsModel", "use", "(I)V"⟩, 30) := ⟨⟨by decide +kernel, by decide +kernel⟩, List.mem_of_getElem? (i := 469) (by decide +kernel), List.mem_of_getElem? (i := 626) (by decide +kernel), List.mem_of_getElem? (i := 627) (by decide +kernel)⟩
theorem lw_p26 : lw_okq (⟨"PageRowsModel", "fails", "(II)Z"⟩, 30) := ⟨⟨by decide +kernel, by decide +kernel⟩, List.mem_of_getElem? (i := 469) (by decide +kernel), List.mem_of_getElem? (i := 630) (by decide +kernel), List.mem_of_getElem? (i := 631) (by decide +kernel)⟩
theorem lw_p27 : lw_okq (⟨"PageRowsModel", "ends", "(III)Z"⟩, 30) := ⟨⟨by decide +kernel, by decide +kernel⟩, List.mem_of_getElem? (i := 469) (by decide +kernel), List.mem_of_getElem? (i := 634) (by decide +kernel), List.mem_of_getElem? (i := 635) (by decide +kernel)⟩
theorem lw_p28 : lw_okq (⟨"PageRowsModel", "mapped", "(I)I"⟩, 30) := ⟨⟨by decide +kernel, by decide +kernel⟩, List.mem_of_getElem? (i := 469) (by decide +kernel), List.mem_of_getElem? (i := 641) (by decide +kernel), List.mem_of_getElem? (i := 642) (by decide +kernel)⟩
theorem lw_p29 : lw_okq (⟨"PageRowsModel", "told", "(Z)I"⟩, 30) := ⟨⟨by decide +kernel, by decide +kernel⟩, List.mem_of_getElem? (i := 469) (by decide +kernel), List.mem_of_getElem? (i := 645) (by decide +kernel), List.mem_of_getElem? (i := 646) (by decide +kernel)⟩
theorem lw_p30 : lw_okq (⟨"PageRowsModel", "walks", "(II)Z"⟩, 30) := ⟨⟨by decide +kernel, by decide +kernel⟩, List.mem_of_getElem? (i := 469) (by decide +kernel), List.mem_of_getElem? (i := 649) (by decide +kernel), List.mem_of_getElem? (i := 650) (by decide +kernel)⟩
theorem lw_p31 : lw_okq (⟨"PageRowsModel", "goes", "(IIII)Z"⟩, 30) := ⟨⟨by decide +kernel, by decide +kernel⟩, List.mem_of_getElem? (i := 469) (by decide +kernel), List.mem_of_getElem? (i := 653) (by decide +kernel), List.mem_of_getElem? (i := 654) (by decide +kernel)⟩
def lw_privs_2 : List (MethodName × Nat) := [(⟨"PageRows", "translateByEntry", "(III)I"⟩, 12), (⟨"PageRows$Entries", "forget", "(III)I"⟩, 3), (⟨"PageRows$Entry", "part", "(I)I"⟩, 6), (⟨"PageRows", "isStale", "(LPageRows$Entry;I)Z"⟩, 12), (⟨"PageRowsModel", "throwing", "(ZZ)Z"⟩, 30), (⟨"PageRowsModel", "isOutside", "(I)Z"⟩, 30), (⟨"PageRowsModel", "entryFor", "(I)I"⟩, 30), (⟨"PageRowsModel", "fits", "(II)Z"⟩, 30), (⟨"PageRowsModel", "byEntry", "(III)Z"⟩, 30), (⟨"PageRowsModel", "use", "(I)V"⟩, 30), (⟨"PageRowsModel", "fails", "(II)Z"⟩, 30), (⟨"PageRowsModel", "ends", "(III)Z"⟩, 30), (⟨"PageRowsModel", "mapped", "(I)I"⟩, 30), (⟨"PageRowsModel", "told", "(Z)I"⟩, 30), (⟨"PageRowsModel", "walks", "(II)Z"⟩, 30), (⟨"PageRowsModel", "goes", "(IIII)Z"⟩, 30)]
theorem lw_r2 : ∀ q ∈ lw_privs_2, lw_okq q := List.forall_mem_cons.mpr ⟨lw_p16, List.forall_mem_cons.mpr ⟨lw_p17, List.forall_mem_cons.mpr ⟨lw_p18, List.forall_mem_cons.mpr ⟨lw_p19, List.forall_mem_cons.mpr ⟨lw_p20, List.forall_mem_cons.mpr ⟨lw_p21, List.forall_mem_cons.mpr ⟨lw_p22, List.forall_mem_cons.mpr ⟨lw_p23, List.forall_mem_cons.mpr ⟨lw_p24, List.forall_mem_cons.mpr ⟨lw_p25, List.forall_mem_cons.mpr ⟨lw_p26, List.forall_mem_cons.mpr ⟨lw_p27, List.forall_mem_cons.mpr ⟨lw_p28, List.forall_mem_cons.mpr ⟨lw_p29, List.forall_mem_cons.mpr ⟨lw_p30, List.forall_mem_cons.mpr ⟨lw_p31, fun _ h => absurd h List.not_mem_nil⟩⟩⟩⟩⟩⟩⟩⟩⟩⟩⟩⟩⟩⟩⟩⟩
theorem lw_p32 : lw_okq (⟨"PageRowsModel", "mark", "(I)V"⟩, 30) := ⟨⟨by decide +kernel, by decide +kernel⟩, List.mem_of_getElem? (i := 469) (by decide +kernel), List.mem_of_getElem? (i := 665) (by decide +kernel), List.mem_of_getElem? (i := 666) (by decide +kernel)⟩
theorem lw_p33 : lw_okq (⟨"PageRowsModel", "keep", "(I)V"⟩, 30) := ⟨⟨by decide +kernel, by decide +kernel⟩, List.mem_of_getElem? (i := 469) (by decide +kernel), List.mem_of_getElem? (i := 671) (by decide +kernel), List.mem_of_getElem? (i := 672) (by decide +kernel)⟩
theorem lw_p34 : lw_okq (⟨"PageRowsModel", "drop", "(I)V"⟩, 30) := ⟨⟨by decide +kernel, by decide +kernel⟩, List.mem_of_getElem? (i := 469) (by decide +kernel), List.mem_of_getElem? (i := 675) (by decide +kernel), List.mem_of_getElem? (i := 676) (by decide +kernel)⟩
theorem lw_p35 : lw_okq (⟨"PageRowsModel", "inOrder", "(I)I"⟩, 30) := ⟨⟨by decide +kernel, by decide +kernel⟩, List.mem_of_getElem? (i := 469) (by decide +kernel), List.mem_of_getElem? (i := 699) (by decide +kernel), List.mem_of_getElem? (i := 700) (by decide +kernel)⟩
theorem lw_p36 : lw_okq (⟨"PageRowsModel", "isStale", "(II)Z"⟩, 30) := ⟨⟨by decide +kernel, by decide +kernel⟩, List.mem_of_getElem? (i := 469) (by decide +kernel), List.mem_of_getElem? (i := 707) (by decide +kernel), List.mem_of_getElem? (i := 708) (by decide +kernel)⟩
def lw_privs_3 : List (MethodName × Nat) := [(⟨"PageRowsModel", "mark", "(I)V"⟩, 30), (⟨"PageRowsModel", "keep", "(I)V"⟩, 30), (⟨"PageRowsModel", "drop", "(I)V"⟩, 30), (⟨"PageRowsModel", "inOrder", "(I)I"⟩, 30), (⟨"PageRowsModel", "isStale", "(II)Z"⟩, 30)]
theorem lw_r3 : ∀ q ∈ lw_privs_3, lw_okq q := List.forall_mem_cons.mpr ⟨lw_p32, List.forall_mem_cons.mpr ⟨lw_p33, List.forall_mem_cons.mpr ⟨lw_p34, List.forall_mem_cons.mpr ⟨lw_p35, List.forall_mem_cons.mpr ⟨lw_p36, fun _ h => absurd h List.not_mem_nil⟩⟩⟩⟩⟩
def lw_privs : List (MethodName × Nat) := lw_privs_1 ++ (lw_privs_2 ++ (lw_privs_3))
def lw_tbl : List Cond := k2_sels lw_privs ++ tables_1
theorem lw_privs_ok : ∀ q ∈ lw_privs, lw_okq q := by
  show ∀ q ∈ lw_privs_1 ++ (lw_privs_2 ++ (lw_privs_3)), lw_okq q
  exact List.forall_mem_append.mpr ⟨lw_r1, List.forall_mem_append.mpr ⟨lw_r2, lw_r3⟩⟩

/-! ===== BEGIN exceptions that leave a method, and their catching by the caller (launches without stack traces) ===== -/
section VXA
/-! The laws vx_back, vx_callV, vx_callS, vx_callSW, vx_throw0, vx_throwS follow proofs of the library, with one case more: JvmDerived/Free/Laws.lean (Back.of_free), Shelf42/LK1.lean (callV, callS), Shelf/KitTraced.lean (throwNew0V, throwNewS). -/
/-- where a method has thrown q: the class by its name, the cell, what was written, the world -/
def vx_T (XC : String → State → State → Prop) (st : State) (q : Addr) (t : State) (mc ms : Nat) (free : Addr → Prop) : Prop :=
  ∃ (E : String) (ce : Cell) (L : List Loc), XC E st t ∧ t.heap[q]? = some ce ∧ ce.vm = .none ∧ st.vm.findClass E = some ce.cls ∧ st.WarmedH t.vm ∧ st.sameButNew ({ t with vm := st.vm } : State) L mc ms ∧ ∀ z ∈ L, free z.base
def vx_Q (Qc : Array Value → State → Outcome → State → Prop) (XC : String → State → State → Prop) (mc ms : Nat) (free : Addr → Prop) : Array Value → State → Outcome → State → Prop := fun a st o t =>
  (Qc a st o t ∧ ∃ L, FrameEnd st o t L mc ms ∧ ∀ q ∈ L, free q.base) ∨ ∃ q, o = .threw q ∧ vx_T XC st q t mc ms free
/-- a callee that returns or throws -/
def vx_Met (l : Launch) (y : MethodName) (ws : List Cond) (rm : Room) (Pc : Array Value → State → Prop) (Qc : Array Value → State → Outcome → State → Prop) (XC : String → State → State → Prop) (mc ms : Nat) (free : Addr → Prop) : Prop :=
  MetFree l y (headSpec ws rm) Pc (fun _ _ _ _ _ => True) (vx_Q Qc XC mc ms free)
def vx_Post (XC : String → State → State → Prop) (mc ms : Nat) (free : Addr → Prop) : Pt → Array Value → Addr → Pt → Prop := fun A a q B =>
  ∃ (g : JFrame) (mk : MethodId) (t : State) (L : List Loc) (E : String) (ce : Cell), B.U.heap = t.heap ∧ B.U.vm = t.vm ∧ XC E (A.U.calling g mk a) t ∧ t.heap[q]? = some ce ∧ ce.vm = .none ∧ A.U.vm.findClass E = some ce.cls ∧ B.locs = A.locs ++ L ∧ (∀ z ∈ L, free z.base) ∧ B.cells = A.cells + mc ∧ B.slots = A.slots + ms
def vx_Back (l : Launch) (R : Room) (p : Program) (e : Env) (below : List Frame) (s : State) (sargs : Array Value) (y : MethodName) (len W9 : Nat)
    (Pre : Pt → Array Value → Prop) (Post : Pt → Array Value → Option Value → Pt → Prop) (PostX : Pt → Array Value → Addr → Pt → Prop) : Prop :=
  ∀ (m : MethodId) (meth : Method) (c : Code) (A : Pt) (g : JFrame) (ig : Instr) (mk : MethodId) (a : Array Value),
    Stand p l e R s m sargs below meth c A.U A.locs A.cells A.slots → g.method = m → g.locals.size = c.maxLocals → decode c.code g.pc = .ok (ig, len) →
    2 * g.monitorRoom + (g.stack.map fun v => v.category).sum ≤ W9 → A.U.methodNamed? y = some mk → Pre A a →
    (∃ (v : Option Value) (B : Pt), Stand p l e R s m sargs below meth c B.U B.locs B.cells B.slots ∧ Post A a v B ∧
      Steps p.tables e below (doInvoke e (A.U.setTop g) [] mk a).1 (B.U.setTop { g with pc := g.pc + len, stack := v.toList ++ g.stack })) ∨
    (∃ (q : Addr) (B : Pt), Stand p l e R s m sargs below meth c B.U B.locs B.cells B.slots ∧ PostX A a q B ∧
      Steps p.tables e below (doInvoke e (A.U.setTop g) [] mk a).1 ((B.U.setTop g).pushFrame (.throwing q)))
section Payer
variable {l : Launch} {R : Room} {p : Program} {e : Env} {below : List Frame} {s : State} {sargs : Array Value} {y : MethodName} {len W9 : Nat}
theorem vx_back {ws : List Cond} {rm : Room} {Pc : Array Value → State → Prop} {Qc : Array Value → State → Outcome → State → Prop} {XC : String → State → State → Prop} {mc ms : Nat} {free : Addr → Prop} {bytes : ByteArray} {maxL : Nat} {ret : Option FieldType}
    (hM : vx_Met l y ws rm Pc Qc XC mc ms free) (hblind : FrameBlind Pc) (hrc : rm.cells = mc) (hrs : rm.slots = ms)
    (hframes : rm.frames + 1 ≤ R.frames) (hlocals : W9 + (maxL + 11) + rm.locals ≤ R.locals)
    (hws : ∀ w ∈ ws, ∀ a' U, s.WarmedH U.vm → w.before a' U = true) (hcode : Cond.code y bytes maxL ret ∈ ws) (hinit : ∀ a' U, s.WarmedH U.vm → (Cond.initialized y.cls).before a' U = true) :
    vx_Back l R p e below s sargs y len W9 (PreOf R mc ms Pc) (PostOf Qc mc ms free) (vx_Post XC mc ms free) := by
  intro m meth c A g ig mk a X hg hsize hdg hW hn hp
  have h1 : (headSpec ws rm).pre.before a A.U = true := atoms_intro fun w hw => hws w hw _ _ X.warmed
  have h2 : (Cond.code y bytes maxL ret).before a A.U = true := hws _ hcode _ _ X.warmed
  have h3 : (Cond.initialized y.cls).before a A.U = true := hinit _ _ X.warmed
  have h4 : A.cells + (headSpec ws rm).room.cells ≤ R.cells := by rw [show (headSpec ws rm).room.cells = mc from hrc]; exact hp.1
  have h5 : A.slots + (headSpec ws rm).room.slots ≤ R.slots := by rw [show (headSpec ws rm).room.slots = ms from hrs]; exact hp.2.1
  have hPc : Pc a (A.U.calling g mk a) := hblind _ _ _ _ hp.2.2
  obtain ⟨U, Ls, c0, s0⟩ := A
  dsimp only [Pt.U, Pt.locs, Pt.cells, Pt.slots] at h1 h2 h3 h4 h5 X hn hPc ⊢
  obtain ⟨methY, cY, hmY, hcY, -, hlY, -, -, -, -⟩ := Cond.code_spec hn h2
  obtain ⟨kY, hkY, -⟩ := className_of_methodNamed hn
  have hinitY : kY.init = .initialized := Cond.initialized_spec (findClass_of_methodNamed hn) hkY h3
  have h : At U g.method c below := by rw [hg]; exact X.here
  have hlocals9 : W9 + (maxL + 11) + (headSpec ws rm).room.locals ≤ R.locals := hlocals
  have happ : (headSpec ws rm).appliesLoose y e.platform (U.calling g mk a) = true :=
    Spec.appliesLoose_calling (g := g) h hdg hn hkY hinitY
      (X.room_calling (g := g) (R' := (headSpec ws rm).room) hsize hmY hcY hframes (by rw [hlY]; omega) h4 h5) h1
  obtain ⟨mid, hmid⟩ := h.above
  have hfr : (U.setTop g).frames = (.java g :: mid) ++ below := by rw [State.frames_setTop' g h.top, hmid]; rfl
  obtain ⟨o, s₂, hsteps, -, hend, hq⟩ := Steps.callFree hM p X.admits X.cas X.clock (acts := []) hfr happ hPc trivial
  have hq' : vx_Q Qc XC mc ms free a (U.calling g mk a) o s₂ := hq
  rw [State.frames_setTop' g h.top] at hend
  obtain ⟨g₀, hg0⟩ := Option.isSome_iff_exists.mp h.top
  obtain ⟨r, hr⟩ := State.topJava?_eq_some.mp hg0
  have hr' : (({ U with heap := s₂.heap, slotsUsed := s₂.slotsUsed } : State).setVm s₂.vm).frames = .java g₀ :: r := hr
  rcases hq' with ⟨hqc, L, hfe, hL⟩ | ⟨q, rfl, E, ce, L, hx, hce, hcv, hcl, hW₂, hsm, hL⟩
  · obtain ⟨⟨v, rfl⟩, hW₂, e2, q2, q3, q4, q5, q6⟩ := id hfe
    have e3 : s₂ = ({ (U.calling g mk a).setFrames s₂.frames with heap := s₂.heap, slotsUsed := s₂.slotsUsed } : State).setVm s₂.vm := by
      have : s₂ = ({ s₂ with vm := (U.calling g mk a).vm } : State).setVm s₂.vm := rfl
      rw [e2] at this
      exact this
    obtain ⟨c₂, i₂, len₂, hc₂, hd₂, hf₂⟩ := hend
    have hW' : U.WarmedH s₂.vm := hW₂
    have hcc : c₂ = c := by
      have h1 : s₂.code? g.method = U.code? g.method := by
        rw [State.code?_eq, State.code?_eq, hW'.alike.method?]
      exact Option.some.inj (hc₂.symm.trans (h1.trans h.code))
    subst hcc
    have hlen : len₂ = len := by rw [hdg] at hd₂; cases hd₂; rfl
    subst hlen
    have hs₂ : s₂ = (({ U with heap := s₂.heap, slotsUsed := s₂.slotsUsed } : State).setVm s₂.vm).setTop { g with pc := g.pc + len₂, stack := v.toList ++ g.stack } := by
      refine e3.trans ?_
      rw [hf₂, State.calling_eq h.top, State.setFrames_setFrames, State.setTop_of_frames _ hr', hr]
      rfl
    have hsame : U.sameButNew ({ U with heap := s₂.heap, slotsUsed := s₂.slotsUsed } : State) L mc ms := by
      refine ⟨?_, q2, q3, q4, q5, q6⟩
      obtain ⟨t, ht, -⟩ := State.frames_cons hr
      show ({ U with heap := s₂.heap, slotsUsed := s₂.slotsUsed } : State) = { U.setFrames U.frames with heap := s₂.heap, slotsUsed := s₂.slotsUsed }
      rw [State.setFrames_self ht]
    subst hg
    refine Or.inl ⟨v, ⟨(({ U with heap := s₂.heap, slotsUsed := s₂.slotsUsed } : State).setVm s₂.vm), Ls ++ L, c0 + mc, s0 + ms⟩,
      ⟨X.admits, X.cas, X.clock, X.frames, X.room, X.hears, X.method, X.code, (X.here.setHeapUsed s₂.heap s₂.slotsUsed).setVm hW'.alike, X.tail, State.WarmedH.trans X.warmed hW', X.limits, X.bytes, X.same.trans (hsame.setVm s.vm)⟩,
      ⟨g, mk, s₂, L, rfl, rfl, hqc, rfl, hL, rfl, rfl⟩, ?_⟩
    show Steps p.tables e below _ ((({ U with heap := s₂.heap, slotsUsed := s₂.slotsUsed } : State).setVm s₂.vm).setTop { g with pc := g.pc + len₂, stack := v.toList ++ g.stack })
    rw [← hs₂]
    exact hsteps
  · obtain ⟨e2, q2, q3, q4, q5, q6⟩ := id hsm
    have e3 : s₂ = ({ (U.calling g mk a).setFrames s₂.frames with heap := s₂.heap, slotsUsed := s₂.slotsUsed } : State).setVm s₂.vm := by
      have : s₂ = ({ s₂ with vm := (U.calling g mk a).vm } : State).setVm s₂.vm := rfl
      rw [e2] at this
      exact this
    have hf₂ : s₂.frames = .throwing q :: .java g :: U.frames.tail := hend
    have hW' : U.WarmedH s₂.vm := hW₂
    have hs₂ : s₂ = ((({ U with heap := s₂.heap, slotsUsed := s₂.slotsUsed } : State).setVm s₂.vm).setTop g).pushFrame (.throwing q) := by
      refine e3.trans ?_
      rw [hf₂, State.calling_eq h.top, State.setFrames_setFrames, State.pushFrame, State.frames_setTop _ hr', State.setTop_of_frames _ hr', State.setFrames_setFrames, hr]
      rfl
    have hsame : U.sameButNew ({ U with heap := s₂.heap, slotsUsed := s₂.slotsUsed } : State) L mc ms := by
      refine ⟨?_, q2, q3, q4, q5, q6⟩
      obtain ⟨t, ht, -⟩ := State.frames_cons hr
      show ({ U with heap := s₂.heap, slotsUsed := s₂.slotsUsed } : State) = { U.setFrames U.frames with heap := s₂.heap, slotsUsed := s₂.slotsUsed }
      rw [State.setFrames_self ht]
    subst hg
    refine Or.inr ⟨q, ⟨(({ U with heap := s₂.heap, slotsUsed := s₂.slotsUsed } : State).setVm s₂.vm), Ls ++ L, c0 + mc, s0 + ms⟩,
      ⟨X.admits, X.cas, X.clock, X.frames, X.room, X.hears, X.method, X.code, (X.here.setHeapUsed s₂.heap s₂.slotsUsed).setVm hW'.alike, X.tail, State.WarmedH.trans X.warmed hW', X.limits, X.bytes, X.same.trans (hsame.setVm s.vm)⟩,
      ⟨g, mk, s₂, L, E, ce, rfl, rfl, hx, hce, hcv, hcl, rfl, hL, rfl, rfl⟩, ?_⟩
    show Steps p.tables e below _ (((({ U with heap := s₂.heap, slotsUsed := s₂.slotsUsed } : State).setVm s₂.vm).setTop g).pushFrame (.throwing q))
    rw [← hs₂]
    exact hsteps
end Payer
section Calls
variable {p : Program} {l : Launch} {e : Env} {R : Room} {s : State} {m : MethodId} {args : Array Value} {below : List Frame} {meth : Method} {c : Code} {T : State} {locs : List Loc} {cells slots : Nat}
theorem vx_callV (X : Stand p l e R s m args below meth c T locs cells slots) (hexec : p.tables.exec = Jvm.exec) {own C : String} {index : Nat} {y : MethodName} {bytes : ByteArray} {maxL : Nat} {ret : Option FieldType}
    (hown : s.vm.findClass own = some m.cls) (hlink : (Cond.methodLink own index y).before args s = true) (hinst : (Cond.instanceMethod y).before args s = true) (hsel : (Cond.selects C y y).before args s = true)
    (hcode : (Cond.code y bytes maxL ret).before args s = true) (hy : y.cls ≠ "java/lang/invoke/MethodHandle" ∧ y.cls ≠ "java/lang/invoke/VarHandle")
    {W9 : Nat} {Pre : Pt → Array Value → Prop} {Post : Pt → Array Value → Option Value → Pt → Prop} {PostX : Pt → Array Value → Addr → Pt → Prop} (hK : vx_Back l R p e below s args y 3 W9 Pre Post PostX)
    {b : Addr} {cellB : Cell} (hcell : T.heap[b]? = some cellB) (hobj : cellB.vm.isStatics = false) (hcls : s.vm.findClass C = some cellB.cls)
    {g : JFrame} (hg : g.method = m) (hsize : g.locals.size = c.maxLocals) {argsL rest : List Value} (hlen : ∀ sig, parseMethodDescriptor y.desc = some sig → argsL.length = sig.parameters.length)
    (hstack : g.stack = argsL.reverse ++ .ref b :: rest) (hW : 2 * g.monitorRoom + (rest.map fun v => v.category).sum ≤ W9) (hdg : decode c.code g.pc = .ok (.invokevirtual index, 3))
    (hpre : ∀ vm₁, s.WarmedH vm₁ → Pre ⟨T.setVm vm₁, locs, cells, slots⟩ (Value.ref b :: argsL).toArray) :
    (∃ (v : Option Value) (vm₁ : Vm) (B : Pt), s.WarmedH vm₁ ∧ Stand p l e R s m args below meth c B.U B.locs B.cells B.slots ∧ Post ⟨T.setVm vm₁, locs, cells, slots⟩ (Value.ref b :: argsL).toArray v B ∧
      ∀ target, Steps p.tables e below (B.U.setTop { g with pc := g.pc + 3, stack := v.toList ++ rest }) target → Steps p.tables e below (T.setTop g) target) ∨
    (∃ (q : Addr) (vm₁ : Vm) (B : Pt), s.WarmedH vm₁ ∧ Stand p l e R s m args below meth c B.U B.locs B.cells B.slots ∧ PostX ⟨T.setVm vm₁, locs, cells, slots⟩ (Value.ref b :: argsL).toArray q B ∧
      Steps p.tables e below (T.setTop g) ((B.U.setTop { g with stack := rest }).pushFrame (.throwing q))) := by
  obtain ⟨mk, methM, hnamed, hmethM, hstM, habM⟩ := Cond.instanceMethod_spec hinst
  obtain ⟨methM', cM, hmethM', -, -, -, -, -, -, hsigM⟩ := Cond.code_spec hnamed hcode
  cases hmethM.symm.trans hmethM'
  obtain ⟨c2, r2, m2, q1, q2, q3, q4, kP, hkP, hkPi⟩ := Cond.selects_spec hsel
  cases hcls.symm.trans q1
  cases (State.methodFound?_of_named hnamed hy).symm.trans q2
  cases hnamed.symm.trans q3
  have hselP : selectMethod e.platform s.vm cellB.cls mk = .method mk := by rw [Launch.admits_selectMethod X.admits]; exact q4
  obtain ⟨vm₁, X₁, hstep₁⟩ := X.invokevirtual hexec hown hlink hnamed hmethM hstM hkP hkPi hy (a := b) (cell := cellB) hcell
    (fun z h => by rw [h] at hobj; cases hobj) hselP hmethM habM hkP hkPi (g := g) hg (argsL := argsL) (rest := rest) (hlen _ hsigM) hstack hdg
  rcases hK m meth c ⟨T.setVm vm₁, locs, cells, slots⟩ { g with stack := rest } (.invokevirtual index) mk (Value.ref b :: argsL).toArray X₁ hg hsize hdg hW (X₁.named hnamed) (hpre vm₁ X₁.warmed) with ⟨v, B, X', hpost, hsteps⟩ | ⟨q, B, X', hpost, hsteps⟩
  · exact Or.inl ⟨v, vm₁, B, X₁.warmed, X', hpost, fun target h => hstep₁ _ fun acts => by rw [doInvoke_state]; exact hsteps.trans h⟩
  · exact Or.inr ⟨q, vm₁, B, X₁.warmed, X', hpost, hstep₁ _ fun acts => by rw [doInvoke_state]; exact hsteps⟩
theorem vx_callS (X : Stand p l e R s m args below meth c T locs cells slots) (hexec : p.tables.exec = Jvm.exec) {own : String} {index : Nat} {y : MethodName} {bytes : ByteArray} {maxL : Nat} {ret : Option FieldType}
    (hown : s.vm.findClass own = some m.cls) (hlink : (Cond.methodLink own index y).before args s = true) (hstat : (Cond.static y).before args s = true) (hinit : (Cond.initialized y.cls).before args s = true)
    (hcode : (Cond.code y bytes maxL ret).before args s = true) (hy : y.cls ≠ "java/lang/invoke/MethodHandle" ∧ y.cls ≠ "java/lang/invoke/VarHandle")
    {W9 : Nat} {Pre : Pt → Array Value → Prop} {Post : Pt → Array Value → Option Value → Pt → Prop} {PostX : Pt → Array Value → Addr → Pt → Prop} (hK : vx_Back l R p e below s args y 3 W9 Pre Post PostX)
    {g : JFrame} (hg : g.method = m) (hsize : g.locals.size = c.maxLocals) {argsL rest : List Value} (hlen : ∀ sig, parseMethodDescriptor y.desc = some sig → argsL.length = sig.parameters.length)
    (hstack : g.stack = argsL.reverse ++ rest) (hW : 2 * g.monitorRoom + (rest.map fun v => v.category).sum ≤ W9) (hdg : decode c.code g.pc = .ok (.invokestatic index, 3))
    (hpre : ∀ vm₁, s.WarmedH vm₁ → Pre ⟨T.setVm vm₁, locs, cells, slots⟩ argsL.toArray) :
    (∃ (v : Option Value) (vm₁ : Vm) (B : Pt), s.WarmedH vm₁ ∧ Stand p l e R s m args below meth c B.U B.locs B.cells B.slots ∧ Post ⟨T.setVm vm₁, locs, cells, slots⟩ argsL.toArray v B ∧
      ∀ target, Steps p.tables e below (B.U.setTop { g with pc := g.pc + 3, stack := v.toList ++ rest }) target → Steps p.tables e below (T.setTop g) target) ∨
    (∃ (q : Addr) (vm₁ : Vm) (B : Pt), s.WarmedH vm₁ ∧ Stand p l e R s m args below meth c B.U B.locs B.cells B.slots ∧ PostX ⟨T.setVm vm₁, locs, cells, slots⟩ argsL.toArray q B ∧
      Steps p.tables e below (T.setTop g) ((B.U.setTop { g with stack := rest }).pushFrame (.throwing q))) := by
  obtain ⟨mk, hnamed⟩ := Cond.code_named hcode
  obtain ⟨methM, cM, hmethM, -, -, -, -, -, -, hsigM⟩ := Cond.code_spec hnamed hcode
  have hstatic : methM.isStatic = true := Cond.static_spec hnamed hmethM hstat
  obtain ⟨kP, hkP, -⟩ := className_of_methodNamed hnamed
  have hinitP : kP.init = .initialized := Cond.initialized_spec (findClass_of_methodNamed hnamed) hkP hinit
  obtain ⟨vm₁, X₁, hstep₁⟩ := X.invokestatic hexec hown hlink hnamed hmethM hstatic hkP hinitP hy (g := g) hg (argsL := argsL) (rest := rest) (hlen _ hsigM) hstack hdg
  rcases hK m meth c ⟨T.setVm vm₁, locs, cells, slots⟩ { g with stack := rest } (.invokestatic index) mk argsL.toArray X₁ hg hsize hdg hW (X₁.named hnamed) (hpre vm₁ X₁.warmed) with ⟨v, B, X', hpost, hsteps⟩ | ⟨q, B, X', hpost, hsteps⟩
  · exact Or.inl ⟨v, vm₁, B, X₁.warmed, X', hpost, fun target h => hstep₁ _ fun acts => by rw [doInvoke_state]; exact hsteps.trans h⟩
  · exact Or.inr ⟨q, vm₁, B, X₁.warmed, X', hpost, hstep₁ _ fun acts => by rw [doInvoke_state]; exact hsteps⟩
end Calls
theorem vx_cls {s : State} {T : State} {vm₁ : Vm} {E : String} {k : ClassId} (hW : s.WarmedH vm₁) (h : (T.setVm vm₁).vm.findClass E = some k) : s.vm.findClass E = some k := by
  have h1 : vm₁.findClass E = some k := h
  rw [hW.alike.findClass] at h1
  exact h1
/-- the method's frame g, with q thrown over it -/
def vx_W (p : Program) (l : Launch) (e : Env) (R : Room) (s : State) (m : MethodId) (args : Array Value) (below : List Frame) (meth : Method) (c : Code) (H : Heap) (locs : List Loc) (cells slots : Nat) (Q : State → Prop) (g : JFrame) (q : Addr) : Prop :=
  ∀ T : State, T.heap = H → Stand p l e R s m args below meth c T locs cells slots → ∃ t, Steps p.tables e below ((T.setTop g).pushFrame (.throwing q)) t ∧ Q t
def vx_Run (p : Program) (l : Launch) (e : Env) (R : Room) (s : State) (m : MethodId) (args : Array Value) (below : List Frame) (meth : Method) (c : Code) (H : Heap) (locs : List Loc) (cells slots mc ms : Nat) (g : JFrame) (rest : List Value) (Qa : State → Outcome → State → Prop) (XC : String → State → State → Prop) (free : Addr → Prop) : Prop :=
  ∀ T : State, T.heap = H → Stand p l e R s m args below meth c T locs cells slots →
    (∃ (v : Option Value) (st₀ t T' : State) (L : List Loc), st₀.heap = H ∧ Stand p l e R s m args below meth c T' (locs ++ L) (cells + mc) (slots + ms) ∧ (∀ q ∈ L, free q.base) ∧ T'.heap = t.heap ∧ T'.vm = t.vm ∧ Qa st₀ (.returned v) t ∧
      Goes p e below T g T' { g with pc := g.pc + 3, stack := v.toList ++ rest }) ∨
    (∃ (q : Addr) (st₀ t T' : State) (L : List Loc) (E : String) (ce : Cell), st₀.heap = H ∧ Stand p l e R s m args below meth c T' (locs ++ L) (cells + mc) (slots + ms) ∧ (∀ z ∈ L, free z.base) ∧ T'.heap = t.heap ∧ T'.vm = t.vm ∧ XC E st₀ t ∧ t.heap[q]? = some ce ∧ ce.vm = .none ∧ s.vm.findClass E = some ce.cls ∧
      Steps p.tables e below (T.setTop g) ((T'.setTop { g with stack := rest }).pushFrame (.throwing q)))
def vx_X {S : Type} (px : S → Prop) (B : String → S → State → Prop) (A : Nat → Prop) : String → State → State → Prop := fun E st t => ∃ u : S, px u ∧ B E u t ∧ va_F A st t
section Runs
variable {p : Program} {l : Launch} {e : Env} {R : Room} {s : State} {m : MethodId} {args : Array Value} {below : List Frame} {meth : Method} {c : Code} {H : Heap} {locs : List Loc} {cells slots : Nat}
variable {y : MethodName} {bytes cc : ByteArray} {maxL nL mc ms n index : Nat} {ret : Option FieldType} {ws : List Cond} {rm : Room} {Pc : Array Value → State → Prop} {Qc : Array Value → State → Outcome → State → Prop} {XC : String → State → State → Prop} {free : Addr → Prop} {Ts : List Cond} {own C : String} {b : Addr} {As rest : List Value} {g : JFrame}
theorem vx_callBack (cb : CallB R s args own index y bytes maxL ret ws rm mc ms n) (hM : vx_Met l y ws rm Pc Qc XC mc ms free) (hbl : FrameBlind Pc) : vx_Back l R p e below s args y 3 8 (PreOf R mc ms Pc) (PostOf Qc mc ms free) (vx_Post XC mc ms free) := by
  obtain ⟨hrc, hrs, hfr, hlo, hws, hcw, -, hini, -⟩ := cb
  exact vx_back (bytes := bytes) (maxL := maxL) (ret := ret) hM hbl hrc hrs hfr hlo hws hcw (fun a' U hW => word_at hW (Or.inl (by first | rfl | simp [Cond.onTables, Cond.keeps, Cond.steady])) hini)
theorem vx_runV (S : CallFix p m c cc nL s args Ts own) (hM : vx_Met l y ws rm Pc Qc XC mc ms free) (cw : CallW R s args own C index y bytes maxL ret ws rm mc ms n) (hp : PreV s H C b Pc As)
    (hg : g.method = m) (hn : As.length = n) (hsize : g.locals.size = nL) (hstack : g.stack = As.reverse ++ .ref b :: rest) (hW : 2 * g.monitorRoom + (rest.map fun v => v.category).sum ≤ 8) (hdg : decode cc g.pc = .ok (.invokevirtual index, 3)) (hf : cells + mc ≤ R.cells ∧ slots + ms ≤ R.slots) :
    vx_Run p l e R s m args below meth c H locs cells slots mc ms g rest (Qc (Value.ref b :: As).toArray) XC free := by
  have hK : vx_Back l R p e below s args y 3 8 (PreOf R mc ms Pc) (PostOf Qc mc ms free) (vx_Post XC mc ms free) := vx_callBack cw.1 hM hp.1
  obtain ⟨⟨-, -, -, -, -, -, hcode, -, hy, hlen, hl⟩, hin, hse⟩ := cw
  obtain ⟨hx, hb, hml, ho, -⟩ := S
  obtain ⟨-, ⟨cellB, hcB, hoB, hclB⟩, hPc⟩ := hp
  intro T hT X
  rcases vx_callV X hx (C := C) (bytes := bytes) (maxL := maxL) (ret := ret) ho hl hin hse hcode hy hK (by rw [hT]; exact hcB) hoB hclB hg (hsize.trans hml.symm) (argsL := As) (rest := rest) (fun sig h => hn.trans (hlen sig h)) hstack hW (by rw [hb]; exact hdg)
    (fun vm₁ hW₁ => ⟨hf.1, hf.2, hPc (T.setVm vm₁) hT hW₁⟩) with ⟨v, vm₁, ⟨U', l2, c2, s2⟩, hW₁, X', ⟨g', mk, t, L, e1, e2, hq, h1, hL, h2, h3⟩, st⟩ | ⟨q, vm₁, ⟨U', l2, c2, s2⟩, hW₁, X', ⟨g', mk, t, L, E, ce, e1, e2, hq, hce, hcv, hcl, h1, hL, h2, h3⟩, st⟩
  · dsimp only [Pt.U, Pt.locs, Pt.cells, Pt.slots] at X' e1 e2 h1 h2 h3 st
    subst h1; subst h2; subst h3
    exact Or.inl ⟨v, (T.setVm vm₁).calling g' mk (Value.ref b :: As).toArray, t, U', L, hT, X', hL, e1, e2, hq, st⟩
  · dsimp only [Pt.U, Pt.locs, Pt.cells, Pt.slots] at X' e1 e2 h1 h2 h3 st hcl
    subst h1; subst h2; subst h3
    exact Or.inr ⟨q, (T.setVm vm₁).calling g' mk (Value.ref b :: As).toArray, t, U', L, E, ce, hT, X', hL, e1, e2, hq, hce, hcv, vx_cls hW₁ hcl, st⟩
theorem vx_runS (S : CallFix p m c cc nL s args Ts own) (hM : vx_Met l y ws rm Pc Qc XC mc ms free) (cw : CallB R s args own index y bytes maxL ret ws rm mc ms n ∧ (Cond.static y).before args s = true) (hp : PreS s H Pc As)
    (hg : g.method = m) (hn : As.length = n) (hsize : g.locals.size = nL) (hstack : g.stack = As.reverse ++ rest) (hW : 2 * g.monitorRoom + (rest.map fun v => v.category).sum ≤ 8) (hdg : decode cc g.pc = .ok (.invokestatic index, 3)) (hf : cells + mc ≤ R.cells ∧ slots + ms ≤ R.slots) :
    vx_Run p l e R s m args below meth c H locs cells slots mc ms g rest (Qc As.toArray) XC free := by
  have hK : vx_Back l R p e below s args y 3 8 (PreOf R mc ms Pc) (PostOf Qc mc ms free) (vx_Post XC mc ms free) := vx_callBack cw.1 hM hp.1
  obtain ⟨⟨-, -, -, -, -, -, hcode, hini, hy, hlen, hl⟩, hstt⟩ := cw
  obtain ⟨hx, hb, hml, ho, -⟩ := S
  intro T hT X
  rcases vx_callS X hx (bytes := bytes) (maxL := maxL) (ret := ret) ho hl hstt hini hcode hy hK hg (hsize.trans hml.symm) (argsL := As) (rest := rest) (fun sig h => hn.trans (hlen sig h)) hstack hW (by rw [hb]; exact hdg)
    (fun vm₁ hW₁ => ⟨hf.1, hf.2, hp.2 (T.setVm vm₁) hT hW₁⟩) with ⟨v, vm₁, ⟨U', l2, c2, s2⟩, hW₁, X', ⟨g', mk, t, L, e1, e2, hq, h1, hL, h2, h3⟩, st⟩ | ⟨q, vm₁, ⟨U', l2, c2, s2⟩, hW₁, X', ⟨g', mk, t, L, E, ce, e1, e2, hq, hce, hcv, hcl, h1, hL, h2, h3⟩, st⟩
  · dsimp only [Pt.U, Pt.locs, Pt.cells, Pt.slots] at X' e1 e2 h1 h2 h3 st
    subst h1; subst h2; subst h3
    exact Or.inl ⟨v, (T.setVm vm₁).calling g' mk As.toArray, t, U', L, hT, X', hL, e1, e2, hq, st⟩
  · dsimp only [Pt.U, Pt.locs, Pt.cells, Pt.slots] at X' e1 e2 h1 h2 h3 st hcl
    subst h1; subst h2; subst h3
    exact Or.inr ⟨q, (T.setVm vm₁).calling g' mk As.toArray, t, U', L, E, ce, hT, X', hL, e1, e2, hq, hce, hcv, vx_cls hW₁ hcl, st⟩
end Runs
section Rows
variable {p : Program} {l : Launch} {e : Env} {R : Room} {s : State} {m : MethodId} {args : Array Value} {below : List Frame} {meth : Method} {c : Code} {H : Heap} {locs : List Loc} {cells slots : Nat} {Q : State → Prop}
variable {mc ms : Nat} {free : Addr → Prop} {A0 A1 : Nat → Prop} {H0 : Heap} {a : Array Value} {pc : Nat} {ls : Array Slot} {st0 rest : List Value}
theorem vx_keep {st₀ t T' : State} {L : List Loc} (h0 : st₀.heap = H) (e1 : T'.heap = t.heap) (hS : va_S A0 H0 H locs) (hA : ∀ q, q < H.size → A1 q → A0 q) (hf : ∀ q, free q → A0 q) (hL : ∀ q ∈ L, free q.base) (hF : va_F A1 st₀ t) :
    H.size ≤ T'.heap.size ∧ (∀ q : Nat, q < H.size → ¬ A1 q → T'.heap[q]? = H[q]?) ∧ va_S A0 H0 T'.heap (locs ++ L) := by
  obtain ⟨hz, hk⟩ := hF
  rw [h0] at hz hk
  exact ⟨by rw [e1]; exact hz, fun q h1 h2 => by rw [e1]; exact hk q h1 h2,
    ⟨Nat.le_trans hS.1 (by rw [e1]; exact hz), fun q h1 h2 => by rw [e1, hk q (Nat.lt_of_lt_of_le h1 hS.1) (fun z => h2 (hA q (Nat.lt_of_lt_of_le h1 hS.1) z))]; exact hS.2.1 q h1 h2, fun q hq => by
      rcases List.mem_append.mp hq with h | h
      · exact hS.2.2 q h
      · exact hf _ (hL q h)⟩⟩
theorem vx_calli {S SX : Type} {post : Int32 → S → Prop} {px : SX → Prop} {B : S → State → Prop} {BX : String → SX → State → Prop} {AX : Nat → Prop} (hr : vx_Run p l e R s m args below meth c H locs cells slots mc ms (F0 m pc ls st0) rest (va_Qi post B A1 a) (vx_X px BX AX) free) (hS : va_S A0 H0 H locs) (hA : ∀ q, q < H.size → A1 q → A0 q) (hf : ∀ q, free q → A0 q) (hAX : ∀ q, q < H.size → AX q → A0 q)
    (kx : ∀ (E : String) (ce : Cell) (q9 : Addr) (u : SX) (t : State) (H1 : Heap) (locs1 : List Loc), t.heap = H1 → s.vm.Alike t.vm → px u → BX E u t → H.size ≤ H1.size → (∀ q : Nat, q < H.size → ¬ AX q → H1[q]? = H[q]?) → va_S A0 H0 H1 locs1 → H1[q9]? = some ce → ce.vm = .none → s.vm.findClass E = some ce.cls → vx_W p l e R s m args below meth c H1 locs1 (cells + mc) (slots + ms) Q (F0 m pc ls rest) q9)
    (kk : ∀ (r : Int32) (u : S) (t : State) (H1 : Heap) (locs1 : List Loc), t.heap = H1 → s.vm.Alike t.vm → post r u → B u t → H.size ≤ H1.size → (∀ q : Nat, q < H.size → ¬ A1 q → H1[q]? = H[q]?) → va_S A0 H0 H1 locs1 → W p l e R s m args below meth c H1 locs1 (cells + mc) (slots + ms) Q (F0 m (pc + 3) ls (.int r :: rest))) : W p l e R s m args below meth c H locs cells slots Q (F0 m pc ls st0) := by
  intro T hT X
  rcases hr T hT X with ⟨v, st₀, t, T', L, h0, X', hL, e1, e2, ⟨⟨r, u, hv, hp, hb⟩, hF⟩, st⟩ | ⟨q, st₀, t, T', L, E, ce, h0, X', hL, e1, e2, ⟨u, hp, hb, hF⟩, hce, hcv, hcl, st⟩
  · cases hv
    obtain ⟨k1, k2, k3⟩ := vx_keep h0 e1 hS hA hf hL hF
    obtain ⟨t2, a1, b1⟩ := kk r u t T'.heap (locs ++ L) e1.symm (by rw [← e2]; exact X'.warmed.alike) hp hb k1 k2 k3 T' rfl X'
    exact ⟨t2, st t2 a1, b1⟩
  · obtain ⟨k1, k2, k3⟩ := vx_keep h0 e1 hS hAX hf hL hF
    obtain ⟨t2, a1, b1⟩ := kx E ce q u t T'.heap (locs ++ L) e1.symm (by rw [← e2]; exact X'.warmed.alike) hp hb k1 k2 k3 (by rw [e1]; exact hce) hcv hcl T' rfl X'
    exact ⟨t2, st.trans a1, b1⟩
theorem vx_calll {S SX : Type} {post : Int64 → S → Prop} {px : SX → Prop} {B : S → State → Prop} {BX : String → SX → State → Prop} {AX : Nat → Prop} (hr : vx_Run p l e R s m args below meth c H locs cells slots mc ms (F0 m pc ls st0) rest (va_Ql post B A1 a) (vx_X px BX AX) free) (hS : va_S A0 H0 H locs) (hA : ∀ q, q < H.size → A1 q → A0 q) (hf : ∀ q, free q → A0 q) (hAX : ∀ q, q < H.size → AX q → A0 q)
    (kx : ∀ (E : String) (ce : Cell) (q9 : Addr) (u : SX) (t : State) (H1 : Heap) (locs1 : List Loc), t.heap = H1 → s.vm.Alike t.vm → px u → BX E u t → H.size ≤ H1.size → (∀ q : Nat, q < H.size → ¬ AX q → H1[q]? = H[q]?) → va_S A0 H0 H1 locs1 → H1[q9]? = some ce → ce.vm = .none → s.vm.findClass E = some ce.cls → vx_W p l e R s m args below meth c H1 locs1 (cells + mc) (slots + ms) Q (F0 m pc ls rest) q9)
    (kk : ∀ (r : Int64) (u : S) (t : State) (H1 : Heap) (locs1 : List Loc), t.heap = H1 → s.vm.Alike t.vm → post r u → B u t → H.size ≤ H1.size → (∀ q : Nat, q < H.size → ¬ A1 q → H1[q]? = H[q]?) → va_S A0 H0 H1 locs1 → W p l e R s m args below meth c H1 locs1 (cells + mc) (slots + ms) Q (F0 m (pc + 3) ls (.long r :: rest))) : W p l e R s m args below meth c H locs cells slots Q (F0 m pc ls st0) := by
  intro T hT X
  rcases hr T hT X with ⟨v, st₀, t, T', L, h0, X', hL, e1, e2, ⟨⟨r, u, hv, hp, hb⟩, hF⟩, st⟩ | ⟨q, st₀, t, T', L, E, ce, h0, X', hL, e1, e2, ⟨u, hp, hb, hF⟩, hce, hcv, hcl, st⟩
  · cases hv
    obtain ⟨k1, k2, k3⟩ := vx_keep h0 e1 hS hA hf hL hF
    obtain ⟨t2, a1, b1⟩ := kk r u t T'.heap (locs ++ L) e1.symm (by rw [← e2]; exact X'.warmed.alike) hp hb k1 k2 k3 T' rfl X'
    exact ⟨t2, st t2 a1, b1⟩
  · obtain ⟨k1, k2, k3⟩ := vx_keep h0 e1 hS hAX hf hL hF
    obtain ⟨t2, a1, b1⟩ := kx E ce q u t T'.heap (locs ++ L) e1.symm (by rw [← e2]; exact X'.warmed.alike) hp hb k1 k2 k3 (by rw [e1]; exact hce) hcv hcl T' rfl X'
    exact ⟨t2, st.trans a1, b1⟩
theorem vx_callf {S SX : Type} {post : UInt32 → S → Prop} {px : SX → Prop} {B : S → State → Prop} {BX : String → SX → State → Prop} {AX : Nat → Prop} (hr : vx_Run p l e R s m args below meth c H locs cells slots mc ms (F0 m pc ls st0) rest (va_Qf post B A1 a) (vx_X px BX AX) free) (hS : va_S A0 H0 H locs) (hA : ∀ q, q < H.size → A1 q → A0 q) (hf : ∀ q, free q → A0 q) (hAX : ∀ q, q < H.size → AX q → A0 q)
    (kx : ∀ (E : String) (ce : Cell) (q9 : Addr) (u : SX) (t : State) (H1 : Heap) (locs1 : List Loc), t.heap = H1 → s.vm.Alike t.vm → px u → BX E u t → H.size ≤ H1.size → (∀ q : Nat, q < H.size → ¬ AX q → H1[q]? = H[q]?) → va_S A0 H0 H1 locs1 → H1[q9]? = some ce → ce.vm = .none → s.vm.findClass E = some ce.cls → vx_W p l e R s m args below meth c H1 locs1 (cells + mc) (slots + ms) Q (F0 m pc ls rest) q9)
    (kk : ∀ (r : UInt32) (u : S) (t : State) (H1 : Heap) (locs1 : List Loc), t.heap = H1 → s.vm.Alike t.vm → post r u → B u t → H.size ≤ H1.size → (∀ q : Nat, q < H.size → ¬ A1 q → H1[q]? = H[q]?) → va_S A0 H0 H1 locs1 → W p l e R s m args below meth c H1 locs1 (cells + mc) (slots + ms) Q (F0 m (pc + 3) ls (.float r :: rest))) : W p l e R s m args below meth c H locs cells slots Q (F0 m pc ls st0) := by
  intro T hT X
  rcases hr T hT X with ⟨v, st₀, t, T', L, h0, X', hL, e1, e2, ⟨⟨r, u, hv, hp, hb⟩, hF⟩, st⟩ | ⟨q, st₀, t, T', L, E, ce, h0, X', hL, e1, e2, ⟨u, hp, hb, hF⟩, hce, hcv, hcl, st⟩
  · cases hv
    obtain ⟨k1, k2, k3⟩ := vx_keep h0 e1 hS hA hf hL hF
    obtain ⟨t2, a1, b1⟩ := kk r u t T'.heap (locs ++ L) e1.symm (by rw [← e2]; exact X'.warmed.alike) hp hb k1 k2 k3 T' rfl X'
    exact ⟨t2, st t2 a1, b1⟩
  · obtain ⟨k1, k2, k3⟩ := vx_keep h0 e1 hS hAX hf hL hF
    obtain ⟨t2, a1, b1⟩ := kx E ce q u t T'.heap (locs ++ L) e1.symm (by rw [← e2]; exact X'.warmed.alike) hp hb k1 k2 k3 (by rw [e1]; exact hce) hcv hcl T' rfl X'
    exact ⟨t2, st.trans a1, b1⟩
theorem vx_calld {S SX : Type} {post : UInt64 → S → Prop} {px : SX → Prop} {B : S → State → Prop} {BX : String → SX → State → Prop} {AX : Nat → Prop} (hr : vx_Run p l e R s m args below meth c H locs cells slots mc ms (F0 m pc ls st0) rest (va_Qd post B A1 a) (vx_X px BX AX) free) (hS : va_S A0 H0 H locs) (hA : ∀ q, q < H.size → A1 q → A0 q) (hf : ∀ q, free q → A0 q) (hAX : ∀ q, q < H.size → AX q → A0 q)
    (kx : ∀ (E : String) (ce : Cell) (q9 : Addr) (u : SX) (t : State) (H1 : Heap) (locs1 : List Loc), t.heap = H1 → s.vm.Alike t.vm → px u → BX E u t → H.size ≤ H1.size → (∀ q : Nat, q < H.size → ¬ AX q → H1[q]? = H[q]?) → va_S A0 H0 H1 locs1 → H1[q9]? = some ce → ce.vm = .none → s.vm.findClass E = some ce.cls → vx_W p l e R s m args below meth c H1 locs1 (cells + mc) (slots + ms) Q (F0 m pc ls rest) q9)
    (kk : ∀ (r : UInt64) (u : S) (t : State) (H1 : Heap) (locs1 : List Loc), t.heap = H1 → s.vm.Alike t.vm → post r u → B u t → H.size ≤ H1.size → (∀ q : Nat, q < H.size → ¬ A1 q → H1[q]? = H[q]?) → va_S A0 H0 H1 locs1 → W p l e R s m args below meth c H1 locs1 (cells + mc) (slots + ms) Q (F0 m (pc + 3) ls (.double r :: rest))) : W p l e R s m args below meth c H locs cells slots Q (F0 m pc ls st0) := by
  intro T hT X
  rcases hr T hT X with ⟨v, st₀, t, T', L, h0, X', hL, e1, e2, ⟨⟨r, u, hv, hp, hb⟩, hF⟩, st⟩ | ⟨q, st₀, t, T', L, E, ce, h0, X', hL, e1, e2, ⟨u, hp, hb, hF⟩, hce, hcv, hcl, st⟩
  · cases hv
    obtain ⟨k1, k2, k3⟩ := vx_keep h0 e1 hS hA hf hL hF
    obtain ⟨t2, a1, b1⟩ := kk r u t T'.heap (locs ++ L) e1.symm (by rw [← e2]; exact X'.warmed.alike) hp hb k1 k2 k3 T' rfl X'
    exact ⟨t2, st t2 a1, b1⟩
  · obtain ⟨k1, k2, k3⟩ := vx_keep h0 e1 hS hAX hf hL hF
    obtain ⟨t2, a1, b1⟩ := kx E ce q u t T'.heap (locs ++ L) e1.symm (by rw [← e2]; exact X'.warmed.alike) hp hb k1 k2 k3 (by rw [e1]; exact hce) hcv hcl T' rfl X'
    exact ⟨t2, st.trans a1, b1⟩
theorem vx_callv {S SX : Type} {post : S → Prop} {px : SX → Prop} {B : S → State → Prop} {BX : String → SX → State → Prop} {AX : Nat → Prop} (hr : vx_Run p l e R s m args below meth c H locs cells slots mc ms (F0 m pc ls st0) rest (va_Qv post B A1 a) (vx_X px BX AX) free) (hS : va_S A0 H0 H locs) (hA : ∀ q, q < H.size → A1 q → A0 q) (hf : ∀ q, free q → A0 q) (hAX : ∀ q, q < H.size → AX q → A0 q)
    (kx : ∀ (E : String) (ce : Cell) (q9 : Addr) (u : SX) (t : State) (H1 : Heap) (locs1 : List Loc), t.heap = H1 → s.vm.Alike t.vm → px u → BX E u t → H.size ≤ H1.size → (∀ q : Nat, q < H.size → ¬ AX q → H1[q]? = H[q]?) → va_S A0 H0 H1 locs1 → H1[q9]? = some ce → ce.vm = .none → s.vm.findClass E = some ce.cls → vx_W p l e R s m args below meth c H1 locs1 (cells + mc) (slots + ms) Q (F0 m pc ls rest) q9)
    (kk : ∀ (u : S) (t : State) (H1 : Heap) (locs1 : List Loc), t.heap = H1 → s.vm.Alike t.vm → post u → B u t → H.size ≤ H1.size → (∀ q : Nat, q < H.size → ¬ A1 q → H1[q]? = H[q]?) → va_S A0 H0 H1 locs1 → W p l e R s m args below meth c H1 locs1 (cells + mc) (slots + ms) Q (F0 m (pc + 3) ls (rest))) : W p l e R s m args below meth c H locs cells slots Q (F0 m pc ls st0) := by
  intro T hT X
  rcases hr T hT X with ⟨v, st₀, t, T', L, h0, X', hL, e1, e2, ⟨⟨u, hv, hp, hb⟩, hF⟩, st⟩ | ⟨q, st₀, t, T', L, E, ce, h0, X', hL, e1, e2, ⟨u, hp, hb, hF⟩, hce, hcv, hcl, st⟩
  · cases hv
    obtain ⟨k1, k2, k3⟩ := vx_keep h0 e1 hS hA hf hL hF
    obtain ⟨t2, a1, b1⟩ := kk u t T'.heap (locs ++ L) e1.symm (by rw [← e2]; exact X'.warmed.alike) hp hb k1 k2 k3 T' rfl X'
    exact ⟨t2, st t2 a1, b1⟩
  · obtain ⟨k1, k2, k3⟩ := vx_keep h0 e1 hS hAX hf hL hF
    obtain ⟨t2, a1, b1⟩ := kx E ce q u t T'.heap (locs ++ L) e1.symm (by rw [← e2]; exact X'.warmed.alike) hp hb k1 k2 k3 (by rw [e1]; exact hce) hcv hcl T' rfl X'
    exact ⟨t2, st.trans a1, b1⟩
/-- caught by the row x of this method's table; the rows ahead don't take it -/
theorem vx_catch {own name : String} {E : String} {ce : Cell} {q : Addr} (hown : s.vm.findClass own = some m.cls) (pre : List ExceptionTableEntry) (x : ExceptionTableEntry) (suf : List ExceptionTableEntry) (hsplit : c.exceptionTable.toList = pre ++ x :: suf)
    (hpass : ∀ z ∈ pre, covers z pc = false ∨ (z.catchType ≠ 0 ∧ ∃ nm : String, (Cond.classLink own z.catchType nm).before args s = true ∧ va_Nc E nm s)) (hx : covers x pc = true) (h0 : x.catchType ≠ 0)
    (hlink : (Cond.classLink own x.catchType name).before args s = true) (hcast : (Cond.castable E name).before args s = true) (hcell : H[q]? = some ce) (hv : ce.vm = .none) (hcl : s.vm.findClass E = some ce.cls)
    (kk : W p l e R s m args below meth c H locs cells slots Q (F0 m x.handlerPc ls [.ref q])) : vx_W p l e R s m args below meth c H locs cells slots Q (F0 m pc ls rest) q := by
  intro T hT X
  have hpl : e.platform.magicAccessors = ({} : Platform).magicAccessors := by rw [X.admits.platform]
  obtain ⟨c3, c4, hc3, hc4, hasg⟩ := Cond.castable_spec hcast
  cases Option.some.inj (hc3.symm.trans hcl)
  obtain ⟨c5, hc5, hcl5⟩ := Cond.classLink_spec hown hlink e.platform hpl
  cases Option.some.inj (hc4.symm.trans hc5)
  obtain ⟨vm', X', st⟩ := X.thenCaughtThrough q (g := F0 m pc ls rest) rfl (Steps.refl _) (by rw [hT]; exact hcell) (by rw [hv]; rfl) (by obtain ⟨k9, h9, -⟩ := Vm.findClass_spec hcl; exact ⟨k9, h9⟩) pre x suf hsplit
    (fun z hz => by
      rcases hpass z hz with h | ⟨hz0, nm, hl1, hn1⟩
      · exact Or.inl h
      · obtain ⟨c6, hc6, hcl6⟩ := Cond.classLink_spec hown hl1 e.platform hpl
        obtain ⟨a8, b8, h1, h2, h3⟩ := hn1
        cases Option.some.inj (h1.symm.trans hcl)
        cases Option.some.inj (h2.symm.trans hc6)
        exact Or.inr ⟨hz0, _, hcl6, h3⟩) hx (Or.inr ⟨h0, c4, hcl5, hasg⟩)
  obtain ⟨t, a1, b1⟩ := kk (T.setVm vm') hT X'
  exact ⟨t, st.trans a1, b1⟩
end Rows
section Ends
variable {p : Program} {l : Launch} {e : Env} {R : Room} {s : State} {m : MethodId} {args : Array Value} {below : List Frame} {meth : Method} {c : Code} {H : Heap} {locs : List Loc} {cells slots : Nat} {Q : State → Prop}
variable {mc ms : Nat} {free : Addr → Prop} {A0 A1 : Nat → Prop} {H0 : Heap} {a : Array Value} {ls : Array Slot} {st0 rest : List Value}
variable {Qc : Array Value → State → Outcome → State → Prop} {XC : String → State → State → Prop}
/-- what a body that may throw owes at its end -/
def vx_MQ (below : List Frame) (Qc : Array Value → State → Outcome → State → Prop) (XC : String → State → State → Prop) (a : Array Value) (s : State) (mc ms : Nat) (free : Addr → Prop) : State → Prop := fun t =>
  ∃ o, t.status = .running ∧ Ended t below o ∧ vx_Q Qc XC mc ms free a s o t
theorem vx_ret {g : JFrame} {mc ms : Nat} (k : W p l e R s m args below meth c H locs cells slots (MQ below Qc args s mc ms free) g) : W p l e R s m args below meth c H locs cells slots (vx_MQ below Qc XC args s mc ms free) g := by
  intro T hT X
  obtain ⟨t, a1, o, b1, b2, b3, b4⟩ := k T hT X
  exact ⟨t, a1, o, b1, b2, Or.inl ⟨b3, b4⟩⟩
/-- not caught here: it goes on to the caller -/
theorem vx_widen {g : JFrame} {q : Addr} {k n : Nat} (h1 : cells ≤ k) (h2 : slots ≤ n) (kk : vx_W p l e R s m args below meth c H locs k n Q g q) : vx_W p l e R s m args below meth c H locs cells slots Q g q := fun T hT X => kk T hT (stand_widen X h1 h2)
theorem vx_out {pc : Nat} {E : String} {ce : Cell} {q : Addr} {mc ms : Nat} (hout : ∀ x ∈ c.exceptionTable.toList, covers x pc = false) (hlocks : meth.locks = false) (hcell : H[q]? = some ce) (hv : ce.vm = .none) (hcl : s.vm.findClass E = some ce.cls)
    (hx : ∀ t : State, t.heap = H → s.vm.Alike t.vm → XC E s t) (hf : ∀ z ∈ locs, free z.base) (hc : cells ≤ mc) (hs : slots ≤ ms) :
    vx_W p l e R s m args below meth c H locs cells slots (vx_MQ below Qc XC args s mc ms free) (F0 m pc ls rest) q := by
  intro T hT X
  obtain ⟨st1, hrun, hend, hW, hsm⟩ := X.leaveThrown q (g := F0 m pc ls rest) rfl rfl rfl hout hlocks
  have hcell9 : (T.setFrames (.throwing q :: below)).heap[q]? = some ce := by
    show T.heap[q]? = some ce
    rw [hT]; exact hcell
  exact ⟨_, st1, .threw q, hrun, hend, Or.inr ⟨q, rfl, E, ce, locs, hx _ hT hW.alike, hcell9, hv, hcl, hW, hsm.mono hc hs, hf⟩⟩
theorem vx_frame {U : State} {k n : Nat} (h : s.sameButNew ({ U with vm := s.vm } : State) locs k n) : s.heap.size ≤ U.heap.size ∧ ∀ q : Nat, q < s.heap.size → (∀ z ∈ locs, z.base ≠ q) → U.heap[q]? = s.heap[q]? := by
  obtain ⟨-, h2, -, -, -, h6⟩ := h
  refine ⟨h2, fun q hq hz => ?_⟩
  obtain ⟨c9, e1, e2, e3, e4⟩ := h6 q _ (Array.getElem?_eq_getElem hq)
  have hs : c9.slots = (s.heap[q]).slots := Array.ext_getElem? fun i => e4 i fun hm => hz _ hm rfl
  have h9 : c9 = s.heap[q] := by
    rw [hs] at e2
    exact e2
  have e5 : U.heap[q]? = some c9 := e1
  rw [e5, h9, Array.getElem?_eq_getElem hq]
/-- the words of a throw but the four that speak of the heap -/
def vx_no (w : Cond) : Bool := decide (w ≠ .isRef (.static Bundle.tN "UNASSIGNED_STACK" Bundle.steD)) && decide (w ≠ .isRef (.static Bundle.tN "SUPPRESSED_SENTINEL" Bundle.listD)) && decide (w ≠ .laysStatic Bundle.tN "UNASSIGNED_STACK" Bundle.steD) && decide (w ≠ .laysStatic Bundle.tN "SUPPRESSED_SENTINEL" Bundle.listD)
def vx_at0 (own : String) (ic : Nat) (X : String) (names : List String) : List Cond := (Bundle.ownAtoms0 own ic X names).filter vx_no
def vx_atS (own : String) (ic : Nat) (X : String) (names : List String) : List Cond := (Bundle.ownAtoms own ic X names).filter vx_no
/-- a word that the tables alone decide, or a good one -/
def vx_ot (w : Cond) : Bool := w.onTables || goodWord w
theorem vx_ot_at {args a' : Array Value} {s U : State} {w : Cond} (hW : s.WarmedH U.vm) (hvm : s.vm = U.vm) (hg : vx_ot w = true) (h : w.before args s = true) : w.before a' U = true := by
  simp only [vx_ot, Bool.or_eq_true] at hg
  rcases hg with hg | hg
  · exact va_tabs hg hvm h
  · exact word_at hW (good_of_word hg) h
/-- a list's words: the good ones out of the method's own list, the others by premises of their own -/
theorem vx_hat {args : Array Value} {s : State} {L B : List Cond} (h1 : ∀ w ∈ L.filter goodWord, w.before args s = true) (h2 : ∀ w ∈ L.filter (fun w => !goodWord w), w ∈ B) (h3 : ∀ w ∈ B, w.before args s = true) : ∀ w ∈ L, w.before args s = true := by
  intro w hw
  by_cases g : goodWord w = true
  · exact h1 w (List.mem_filter.mpr ⟨hw, g⟩)
  · refine h3 w (h2 w (List.mem_filter.mpr ⟨hw, ?_⟩))
    show (!goodWord w) = true
    cases hgw : goodWord w
    · rfl
    · exact absurd hgw g
theorem vx_c {args : Array Value} {s : State} {w : Cond} {B : List Cond} (h : w.before args s = true) (t : ∀ w ∈ B, w.before args s = true) : ∀ w' ∈ w :: B, w'.before args s = true := fun w' h' => (List.mem_cons.mp h').elim (fun e => by rw [e]; exact h) (t w')
theorem vx_n {args : Array Value} {s : State} : ∀ w ∈ ([] : List Cond), w.before args s = true := fun _ h => nomatch h
theorem vx_own {args : Array Value} {s : State} {L : List Cond} (h1 : ∀ w ∈ L.filter vx_no, w.before args s = true)
    (hU : (Cond.isRef (.static Bundle.tN "UNASSIGNED_STACK" Bundle.steD)).before args s = true) (hN : (Cond.isRef (.static Bundle.tN "SUPPRESSED_SENTINEL" Bundle.listD)).before args s = true)
    (lU : (Cond.laysStatic Bundle.tN "UNASSIGNED_STACK" Bundle.steD).before args s = true) (lN : (Cond.laysStatic Bundle.tN "SUPPRESSED_SENTINEL" Bundle.listD).before args s = true) : ∀ w ∈ L, w.before args s = true := by
  intro w hw
  by_cases e1 : w = .isRef (.static Bundle.tN "UNASSIGNED_STACK" Bundle.steD)
  · rw [e1]; exact hU
  · by_cases e2 : w = .isRef (.static Bundle.tN "SUPPRESSED_SENTINEL" Bundle.listD)
    · rw [e2]; exact hN
    · by_cases e3 : w = .laysStatic Bundle.tN "UNASSIGNED_STACK" Bundle.steD
      · rw [e3]; exact lU
      · by_cases e4 : w = .laysStatic Bundle.tN "SUPPRESSED_SENTINEL" Bundle.listD
        · rw [e4]; exact lN
        · exact h1 w (List.mem_filter.mpr ⟨hw, by unfold vx_no; rw [decide_eq_true e1, decide_eq_true e2, decide_eq_true e3, decide_eq_true e4]; rfl⟩)
/-- where a static field lies, its class's statics cell in H -/
def vx_L (C n d : String) (A : Nat → Prop) (U : State) (H : Heap) : Prop := ∃ (c : ClassId) (k : Class) (i : Nat) (f : Field) (a : Nat) (cell : Cell), U.vm.findClass C = some c ∧ U.fieldFound? C n d = some (c, k, i, f) ∧ f.isStatic = true ∧ k.statics = some a ∧ H[a]? = some cell ∧ cell.vm.isStatics = true ∧ cell.cls = c ∧ f.slot < cell.slots.size ∧ k.staticTypes[f.slot]? = some f.type ∧ ¬ A a
theorem vx_L.moved {C n d : String} {A : Nat → Prop} {u U : State} {H : Heap} (hvm : u.vm.Alike U.vm) (h : vx_L C n d A u H) : vx_L C n d A U H := by
  obtain ⟨c, k, i, f, a, cell, h1, h2, h3, h4, h5, h6, h7, h8, h9, h10⟩ := h
  obtain ⟨k', hi', he⟩ := State.fieldFound?_setVm hvm h2
  exact ⟨c, k', i, f, a, cell, by rw [hvm.findClass]; exact h1, hi', h3, by rw [he]; exact h4, h5, h6, h7, h8, by rw [he]; exact h9, h10⟩
theorem vx_L.kept {C n d : String} {A : Nat → Prop} {U : State} {H H1 : Heap} (h : vx_L C n d A U H) (hq : ∀ a : Nat, a < H.size → ¬ A a → H1[a]? = H[a]?) : vx_L C n d A U H1 := by
  obtain ⟨c, k, i, f, a, cell, h1, h2, h3, h4, h5, h6, h7, h8, h9, h10⟩ := h
  exact ⟨c, k, i, f, a, cell, h1, h2, h3, h4, by rw [hq a (Array.getElem?_eq_some_iff.mp h5).1 h10]; exact h5, h6, h7, h8, h9, h10⟩
theorem vx_L.narrow {C n d : String} {A B : Nat → Prop} {U : State} {H : Heap} (h : vx_L C n d A U H) (hAB : ∀ q, B q → A q) : vx_L C n d B U H := by
  obtain ⟨c, k, i, f, a, cell, h1, h2, h3, h4, h5, h6, h7, h8, h9, h10⟩ := h
  exact ⟨c, k, i, f, a, cell, h1, h2, h3, h4, h5, h6, h7, h8, h9, fun z => h10 (hAB _ z)⟩
theorem vx_L.word {C n d : String} {A : Nat → Prop} {s : State} {args : Array Value} (h : vx_L C n d A s s.heap) : (Cond.laysStatic C n d).before args s = true := by
  obtain ⟨c, k, i, f, a, cell, h1, h2, h3, h4, h5, h6, h7, h8, h9, -⟩ := h
  show (Cond.laysStatic C n d).holds args s none s [] = true
  exact Cond.laysStatic_of h1 h2 h3 h4 h5 h6 h7 h8 h9
/-- .. and what it holds: null or some reference -/
def vx_Zq (C n d : String) (A : Nat → Prop) (U : State) (H : Heap) : Prop := va_Zq C n d A U H ∧ vx_L C n d A U H
theorem vx_Zq.moved {C n d : String} {A : Nat → Prop} {u U : State} {H : Heap} (hvm : u.vm.Alike U.vm) (h : vx_Zq C n d A u H) : vx_Zq C n d A U H := ⟨va_Zq.moved hvm h.1, vx_L.moved hvm h.2⟩
theorem vx_Zq.kept {C n d : String} {A : Nat → Prop} {U : State} {H H1 : Heap} (h : vx_Zq C n d A U H) (hq : ∀ a : Nat, a < H.size → ¬ A a → H1[a]? = H[a]?) : vx_Zq C n d A U H1 := ⟨va_Zq.kept h.1 hq, vx_L.kept h.2 hq⟩
theorem vx_Zq.narrow {C n d : String} {A B : Nat → Prop} {U : State} {H : Heap} (h : vx_Zq C n d A U H) (hAB : ∀ q, B q → A q) : vx_Zq C n d B U H := ⟨va_Zq.narrow h.1 hAB, vx_L.narrow h.2 hAB⟩
theorem vx_Zqof {args : Array Value} {s : State} {C n d : String} {A : Nat → Prop} (hl : (Cond.laysStatic C n d).before args s = true) (hini : (Cond.initialized C).before args s = true) (h : (Cond.isRef (.static C n d)).before args s = true) (hA : ∀ a : Nat, a < s.heap.size → ¬ A a) : vx_Zq C n d A s s.heap := by
  refine ⟨va_Zqof hl hini h hA, ?_⟩
  obtain ⟨c, k, i, f, a, cell, h1, h2, h3, h4, h5, h6, h7, h8, h9⟩ := Cond.laysStatic_spec hl
  exact ⟨c, k, i, f, a, cell, h1, h2, h3, h4, h5, h6, h7, h8, h9, hA a (Array.getElem?_eq_some_iff.mp h5).1⟩
theorem vx_isRef {C n d : String} {v : Value} {A : Nat → Prop} {s : State} {args : Array Value} (h : va_Z C n d v A s s.heap) (hv : v.isRef = true) : (Cond.isRef (.static C n d)).before args s = true := by
  obtain ⟨cf, kf, fi, f, a, cell, h1, h2, h3, h4, h5, h6, h7, -⟩ := h
  have he : (Term.static C n d).eval args s none [] s = some v := by
    simp [Term.eval, State.fieldNamed?, h1, h2, h4, h5, h6, h7]
  simp only [Cond.before, Cond.holds, Cond.value, he]
  cases v <;> simp_all [Value.isRef]
theorem vx_isRefq {C n d : String} {A : Nat → Prop} {s : State} {args : Array Value} (h : va_Zq C n d A s s.heap) : (Cond.isRef (.static C n d)).before args s = true := by
  rcases h with h | ⟨t, h⟩
  · exact vx_isRef h rfl
  · exact vx_isRef h rfl
/-- the same frame, seen from here: as if the method were called anew in this heap -/
theorem vx_rebase {T : State} (X : Stand p l e R s m args below meth c T locs cells slots) {R' : Room} (hf : R'.frames ≤ R.frames) (hl : R'.locals ≤ R.locals) (hc : cells + R'.cells ≤ R.cells) (hs : slots + R'.slots ≤ R.slots) :
    Stand p l e R' ((T.setVm s.vm).setFrames (.invoking m args :: below)) m args below meth c T [] 0 0 := by
  have htop : (T.setVm s.vm).topJava?.isSome := X.here.top
  have hF : ((T.setVm s.vm).setFrames (.invoking m args :: below)).frames = .invoking m args :: below := State.frames_setFrames _ (State.cur_lt_of_top htop)
  obtain ⟨g₀, hg0⟩ := Option.isSome_iff_exists.mp htop
  obtain ⟨r, hr⟩ := State.topJava?_eq_some.mp hg0
  have hl9 : e.platform.stackLimits (T.setVm s.vm).me = e.platform.stackLimits s.me := X.limits
  have hb9 : (T.setVm s.vm).me.stackBytes = s.me.stackBytes := X.bytes
  refine ⟨X.admits, X.cas, X.clock, hF, ?_, X.hears, X.method, X.code, X.here, X.tail, X.warmed, ?_, ?_, ?_⟩
  · have h := X.room
    have hU : ((T.setVm s.vm).setFrames (.invoking m args :: below)).localsInUse = s.localsInUse := by
      rw [State.localsInUse_invoking hF (meth := meth) (c := c) X.method X.code, State.localsInUse_invoking X.frames X.method X.code]
    simp only [State.hasRoom, Bool.and_eq_true, decide_eq_true_eq] at h ⊢
    obtain ⟨⟨⟨⟨h1, h2, h3, h4, h5, h6⟩, h7⟩, h8⟩, h9⟩ := h
    rw [X.frames, List.length_cons] at h2 h3
    have q1 := X.heapSize
    have q2 := X.used
    simp only [hF, hU, List.length_cons, State.stackLimits_setFrames, State.stackBytes_setFrames, hl9, hb9]
    refine ⟨⟨⟨⟨by omega, by omega, by omega, by omega, by omega, h6⟩, ?_⟩, ?_⟩, X.book⟩
    · show T.heap.size + R'.cells ≤ e.platform.maxCells
      omega
    · show T.slotsUsed + R'.slots ≤ e.platform.maxSlots
      omega
  · rw [State.stackLimits_setFrames]; rfl
  · rw [State.stackBytes_setFrames]; rfl
  · refine ⟨?_, Nat.le_refl _, Nat.le_refl _, ?_, ?_, fun a c9 h9 => ⟨c9, h9, rfl, rfl, fun _ _ => rfl⟩⟩
    · obtain ⟨t, ht, -⟩ := State.frames_cons hr
      show T.setVm s.vm = { ((T.setVm s.vm).setFrames (.invoking m args :: below)).setFrames (T.setVm s.vm).frames with heap := T.heap, slotsUsed := T.slotsUsed }
      rw [State.setFrames_setFrames, State.setFrames_self ht]
      rfl
    · show T.slotsUsed = T.slotsUsed + ((T.heap.toList.drop T.heap.size).map (·.slots.size)).sum
      rw [List.drop_eq_nil_of_le (Nat.le_of_eq Array.length_toList)]
      rfl
    · show ((T.heap.toList.drop T.heap.size).map (·.slots.size)).sum ≤ 0
      rw [List.drop_eq_nil_of_le (Nat.le_of_eq Array.length_toList)]
      exact Nat.le_refl _
/-- 'throw new E()': new; dup; invokespecial; athrow -/
theorem vx_throw0 {cc : ByteArray} {pc : Nat} (hexec : p.tables.exec = Jvm.exec) (hb : c.code = cc) (hl : l.stackTraces = false) {own cls : String} {names : List String} {ik ic mc ms : Nat} {A : Nat → Prop}
    (hown : s.vm.findClass own = some m.cls) (hcls : Bundle.fit cls = true) (hnames : ∀ n ∈ names, Bundle.fit n = true)
    (hk : (Cond.classLink own ik cls).before args s = true) (hini : (Cond.initialized cls).before args s = true) (hat : ∀ w ∈ vx_at0 own ic cls names, w.before args s = true)
    (hgood : ∀ w ∈ Cond.classLink own ik cls :: Cond.initialized cls :: vx_at0 own ic cls names, vx_ot w = true)
    (hU : vx_Zq Bundle.tN "UNASSIGNED_STACK" Bundle.steD A s s.heap) (hN : vx_Zq Bundle.tN "SUPPRESSED_SENTINEL" Bundle.listD A s s.heap) (hS : va_S A s.heap H locs) (hsize : ls.size = c.maxLocals)
    (d0 : decode cc pc = .ok (.new ik, 3)) (d3 : decode cc (pc + 3) = .ok (.dup, 1)) (d4 : decode cc (pc + 4) = .ok (.invokespecial ic, 3)) (d7 : decode cc (pc + 7) = .ok (.athrow, 1))
    (hout : ∀ x ∈ c.exceptionTable.toList, covers x (pc + 7) = false)
    (hRframes : names.length + 3 < R.frames) (hRlocals : (rest.map fun v => v.category).sum + (13 * (names.length + 1) + 42) ≤ R.locals) (hRcells : cells + 1 ≤ R.cells) (hRslots : slots + 6 ≤ R.slots) (hlocks : meth.locks = false)
    (hx : ∀ t : State, s.vm.Alike t.vm → H.size ≤ t.heap.size → (∀ q : Nat, q < H.size → t.heap[q]? = H[q]?) → XC cls s t)
    (hf : ∀ z ∈ locs, free z.base) (hc : cells + 1 ≤ mc) (hs : slots + 6 ≤ ms) :
    W p l e R s m args below meth c H locs cells slots (vx_MQ below Qc XC args s mc ms free) (F0 m pc ls rest) := by
  intro T hT X
  have htr : e.platform.stackTraces = false := (show e.platform.stackTraces = l.stackTraces by rw [X.admits.platform]).trans hl
  have Y := vx_rebase X (R' := { frames := R.frames, locals := R.locals, cells := 1, slots := 6 }) (Nat.le_refl _) (Nat.le_refl _) hRcells hRslots
  obtain ⟨s', hA⟩ : ∃ z, z = (T.setVm s.vm).setFrames (.invoking m args :: below) := ⟨_, rfl⟩
  rw [← hA] at Y
  have hvm : s'.vm = s.vm := by rw [hA]; rfl
  have hhp : s'.heap = H := by rw [hA]; exact hT
  have hW0 : s.WarmedH s'.vm := by rw [hvm]; exact State.WarmedH.refl s
  have hat' : ∀ w ∈ vx_at0 own ic cls names, w.before args s' = true := fun w hw => vx_ot_at hW0 hvm.symm (hgood w (List.mem_cons_of_mem _ (List.mem_cons_of_mem _ hw))) (hat w hw)
  have hk' : (Cond.classLink own ik cls).before args s' = true := vx_ot_at hW0 hvm.symm (hgood _ List.mem_cons_self) hk
  have hini' : (Cond.initialized cls).before args s' = true := vx_ot_at hW0 hvm.symm (hgood _ (List.mem_cons_of_mem _ List.mem_cons_self)) hini
  have hU' : vx_Zq Bundle.tN "UNASSIGNED_STACK" Bundle.steD A s' s'.heap := by rw [hhp]; exact vx_Zq.moved hW0.alike (hU.kept hS.2.1)
  have hN' : vx_Zq Bundle.tN "SUPPRESSED_SENTINEL" Bundle.listD A s' s'.heap := by rw [hhp]; exact vx_Zq.moved hW0.alike (hN.kept hS.2.1)
  have h : ∀ w ∈ Bundle.ownAtoms0 own ic cls names, w.before args s' = true := vx_own hat' (vx_isRefq hU'.1) (vx_isRefq hN'.1) hU'.2.word hN'.2.word
  have hown' : s'.vm.findClass own = some m.cls := by rw [hvm]; exact hown
  have hins : (Cond.instantiable cls 6).before args s' = true := h _ (by simp [Bundle.ownAtoms0])
  obtain ⟨vm₁, cX, kX, hfX, hkX, -, -, X₁, st1⟩ := Y.newCold hexec (own := own) (C := cls) (index := ik) (n := 6) hown' hk' hins hini'
    (g := F0 m pc ls rest) rfl (by rw [hb]; exact d0) (Nat.le_refl _) (Nat.le_refl _)
  generalize hT1 : (T.setVm vm₁).pushCell { cls := cX, slots := kX.instanceTypes.map defaultValue, vm := .none } = T1 at X₁ st1
  have hcat : (Value.ref T.heap.size).category = 1 := rfl
  have hcellA : T1.heap[T.heap.size]? = some (freshCell cX kX) := by rw [← hT1]; exact State.heap_pushCell_size _ _
  have d3' : decode c.code (pc + 3) = .ok (.dup, 1) := by rw [hb]; exact d3
  obtain ⟨U, hsteps, hrun, hend, hW, hsame, ce, hce, hO⟩ := X₁.ctorThrow0 hexec htr (own := own) (cls := cls) (names := names) (ic := ic) hown' hcls hnames h (fun x hx => nomatch hx) hfX hkX hcellA (by rw [hhp, hT]; exact Nat.le_refl _)
    (g := { method := m, pc := pc + 4, locals := ls, stack := .ref T.heap.size :: .ref T.heap.size :: rest, locked := none }) rfl hsize rfl rfl (rest := rest) rfl
    (by rw [hb]; exact d4) (by rw [hb]; exact d7) hout hRframes (by simp only [List.map_cons, List.sum_cons, hcat]; omega) hlocks
  obtain ⟨f1, f2⟩ := vx_frame hsame
  rw [hhp] at f1 f2
  have hWs : s.WarmedH U.vm := State.WarmedH.trans hW0 hW
  have hcl : s.vm.findClass cls = some ce.cls := by
    have h9 := hO.cls
    rw [hvm] at h9
    exact h9
  have hall : s.sameButNew ({ U with vm := s.vm } : State) locs mc ms := by
    subst hA
    obtain ⟨e1, e2⟩ := hsame
    rw [State.setFrames_setFrames] at e1
    have h2 : (T.setVm s.vm).sameButNew ({ U with vm := s.vm } : State) [] (0 + 1) (0 + 6) := ⟨e1, e2⟩
    have h3 := X.same.trans h2
    rw [List.append_nil] at h3
    exact h3.mono hc hs
  refine ⟨U, ?_, .threw T.heap.size, hrun, hend, Or.inr ⟨T.heap.size, rfl, cls, ce, locs, hx U hWs.alike f1 (fun q hq => f2 q hq (fun z hz => nomatch hz)), hce, hO.vm, hcl, hWs, hall, hf⟩⟩
  refine st1 _ ?_
  show Steps p.tables e below (T1.setTop { method := m, pc := pc + 3, locals := ls, stack := .ref T.heap.size :: rest, locked := none }) _
  jvm_step X₁.here [X₁.here.top, hexec, d3', Value.category]
  exact hsteps
/-- 'throw new E("text")': new; dup; ldc; invokespecial; athrow -/
theorem vx_throwS {cc : ByteArray} {pc : Nat} (hexec : p.tables.exec = Jvm.exec) (hb : c.code = cc) (hl : l.stackTraces = false) {own cls text : String} {names : List String} {ik is ic mc ms sa : Nat} {A : Nat → Prop}
    (hown : s.vm.findClass own = some m.cls) (hcls : Bundle.fit cls = true) (hnames : ∀ n ∈ names, Bundle.fit n = true)
    (hk : (Cond.classLink own ik cls).before args s = true) (hini : (Cond.initialized cls).before args s = true) (hstr : vk_R own is text sa s) (hat : ∀ w ∈ vx_atS own ic cls names, w.before args s = true)
    (hgood : ∀ w ∈ Cond.classLink own ik cls :: Cond.initialized cls :: vx_atS own ic cls names, vx_ot w = true)
    (hU : vx_Zq Bundle.tN "UNASSIGNED_STACK" Bundle.steD A s s.heap) (hN : vx_Zq Bundle.tN "SUPPRESSED_SENTINEL" Bundle.listD A s s.heap) (hS : va_S A s.heap H locs) (hsize : ls.size = c.maxLocals)
    (d0 : decode cc pc = .ok (.new ik, 3)) (d3 : decode cc (pc + 3) = .ok (.dup, 1)) (d4 : decode cc (pc + 4) = .ok (.ldc is, 2)) (d6 : decode cc (pc + 6) = .ok (.invokespecial ic, 3)) (d9 : decode cc (pc + 9) = .ok (.athrow, 1))
    (hout : ∀ x ∈ c.exceptionTable.toList, covers x (pc + 9) = false)
    (hRframes : names.length + 3 < R.frames) (hRlocals : (rest.map fun v => v.category).sum + (13 * (names.length + 1) + 43) ≤ R.locals) (hRcells : cells + 1 ≤ R.cells) (hRslots : slots + 6 ≤ R.slots) (hlocks : meth.locks = false)
    (hx : ∀ t : State, s.vm.Alike t.vm → H.size ≤ t.heap.size → (∀ q : Nat, q < H.size → t.heap[q]? = H[q]?) → XC cls s t)
    (hf : ∀ z ∈ locs, free z.base) (hc : cells + 1 ≤ mc) (hs : slots + 6 ≤ ms) :
    W p l e R s m args below meth c H locs cells slots (vx_MQ below Qc XC args s mc ms free) (F0 m pc ls rest) := by
  intro T hT X
  have htr : e.platform.stackTraces = false := (show e.platform.stackTraces = l.stackTraces by rw [X.admits.platform]).trans hl
  have Y := vx_rebase X (R' := { frames := R.frames, locals := R.locals, cells := 1, slots := 6 }) (Nat.le_refl _) (Nat.le_refl _) hRcells hRslots
  obtain ⟨s', hA⟩ : ∃ z, z = (T.setVm s.vm).setFrames (.invoking m args :: below) := ⟨_, rfl⟩
  rw [← hA] at Y
  have hvm : s'.vm = s.vm := by rw [hA]; rfl
  have hhp : s'.heap = H := by rw [hA]; exact hT
  have hW0 : s.WarmedH s'.vm := by rw [hvm]; exact State.WarmedH.refl s
  have hat' : ∀ w ∈ vx_atS own ic cls names, w.before args s' = true := fun w hw => vx_ot_at hW0 hvm.symm (hgood w (List.mem_cons_of_mem _ (List.mem_cons_of_mem _ hw))) (hat w hw)
  have hk' : (Cond.classLink own ik cls).before args s' = true := vx_ot_at hW0 hvm.symm (hgood _ List.mem_cons_self) hk
  have hini' : (Cond.initialized cls).before args s' = true := vx_ot_at hW0 hvm.symm (hgood _ (List.mem_cons_of_mem _ List.mem_cons_self)) hini
  have hU' : vx_Zq Bundle.tN "UNASSIGNED_STACK" Bundle.steD A s' s'.heap := by rw [hhp]; exact vx_Zq.moved hW0.alike (hU.kept hS.2.1)
  have hN' : vx_Zq Bundle.tN "SUPPRESSED_SENTINEL" Bundle.listD A s' s'.heap := by rw [hhp]; exact vx_Zq.moved hW0.alike (hN.kept hS.2.1)
  have h : ∀ w ∈ Bundle.ownAtoms own ic cls names, w.before args s' = true := vx_own hat' (vx_isRefq hU'.1) (vx_isRefq hN'.1) hU'.2.word hN'.2.word
  have hown' : s'.vm.findClass own = some m.cls := by rw [hvm]; exact hown
  have hins : (Cond.instantiable cls 6).before args s' = true := h _ (by simp [Bundle.ownAtoms])
  obtain ⟨vm₁, cX, kX, hfX, hkX, -, -, X₁, st1⟩ := Y.newCold hexec (own := own) (C := cls) (index := ik) (n := 6) hown' hk' hins hini'
    (g := F0 m pc ls rest) rfl (by rw [hb]; exact d0) (Nat.le_refl _) (Nat.le_refl _)
  generalize hT1 : (T.setVm vm₁).pushCell { cls := cX, slots := kX.instanceTypes.map defaultValue, vm := .none } = T1 at X₁ st1
  have hcat : (Value.ref T.heap.size).category = 1 := rfl
  have hcellA : T1.heap[T.heap.size]? = some (freshCell cX kX) := by rw [← hT1]; exact State.heap_pushCell_size _ _
  have d3' : decode c.code (pc + 3) = .ok (.dup, 1) := by rw [hb]; exact d3
  have d4' : decode c.code (pc + 4) = .ok (.ldc is, 2) := by rw [hb]; exact d4
  have hstr' : vk_R own is text sa s' := vk_R.warm hW0 hstr
  obtain ⟨U, hsteps, hrun, hend, hW, hsame, ce, hce, hO⟩ := X₁.ctorThrowS hexec htr (own := own) (cls := cls) (names := names) (ic := ic) hown' hcls hnames h (fun x hx => nomatch hx) hfX hkX hcellA (by rw [hhp, hT]; exact Nat.le_refl _) (msg := .ref sa) rfl
    (g := { method := m, pc := pc + 6, locals := ls, stack := .ref sa :: .ref T.heap.size :: .ref T.heap.size :: rest, locked := none }) rfl hsize rfl rfl (rest := rest) rfl
    (by rw [hb]; exact d6) (by rw [hb]; exact d9) hout hRframes (by simp only [List.map_cons, List.sum_cons, hcat]; omega) hlocks
  obtain ⟨f1, f2⟩ := vx_frame hsame
  rw [hhp] at f1 f2
  have hWs : s.WarmedH U.vm := State.WarmedH.trans hW0 hW
  have hcl : s.vm.findClass cls = some ce.cls := by
    have h9 := hO.cls
    rw [hvm] at h9
    exact h9
  have hall : s.sameButNew ({ U with vm := s.vm } : State) locs mc ms := by
    subst hA
    obtain ⟨e1, e2⟩ := hsame
    rw [State.setFrames_setFrames] at e1
    have h2 : (T.setVm s.vm).sameButNew ({ U with vm := s.vm } : State) [] (0 + 1) (0 + 6) := ⟨e1, e2⟩
    have h3 := X.same.trans h2
    rw [List.append_nil] at h3
    exact h3.mono hc hs
  refine ⟨U, ?_, .threw T.heap.size, hrun, hend, Or.inr ⟨T.heap.size, rfl, cls, ce, locs, hx U hWs.alike f1 (fun q hq => f2 q hq (fun z hz => nomatch hz)), hce, hO.vm, hcl, hWs, hall, hf⟩⟩
  refine st1 _ ?_
  show Steps p.tables e below (T1.setTop { method := m, pc := pc + 3, locals := ls, stack := .ref T.heap.size :: rest, locked := none }) _
  jvm_step X₁.here [X₁.here.top, hexec, d3', Value.category]
  exact X₁.ldcString hexec (own := own) (text := text) (index := is) (a := sa) hown' hstr'.1 hstr'.2
    (g := { method := m, pc := pc + 4, locals := ls, stack := .ref T.heap.size :: .ref T.heap.size :: rest, locked := none }) rfl d4' _ hsteps
/-- 'throw new E("text")', the text by a wide index -/
theorem vx_throwSW {cc : ByteArray} {pc : Nat} (hexec : p.tables.exec = Jvm.exec) (hb : c.code = cc) (hl : l.stackTraces = false) {own cls text : String} {names : List String} {ik is ic mc ms sa : Nat} {A : Nat → Prop}
    (hown : s.vm.findClass own = some m.cls) (hcls : Bundle.fit cls = true) (hnames : ∀ n ∈ names, Bundle.fit n = true)
    (hk : (Cond.classLink own ik cls).before args s = true) (hini : (Cond.initialized cls).before args s = true) (hstr : vk_R own is text sa s) (hat : ∀ w ∈ vx_atS own ic cls names, w.before args s = true)
    (hgood : ∀ w ∈ Cond.classLink own ik cls :: Cond.initialized cls :: vx_atS own ic cls names, vx_ot w = true)
    (hU : vx_Zq Bundle.tN "UNASSIGNED_STACK" Bundle.steD A s s.heap) (hN : vx_Zq Bundle.tN "SUPPRESSED_SENTINEL" Bundle.listD A s s.heap) (hS : va_S A s.heap H locs) (hsize : ls.size = c.maxLocals)
    (d0 : decode cc pc = .ok (.new ik, 3)) (d3 : decode cc (pc + 3) = .ok (.dup, 1)) (d4 : decode cc (pc + 4) = .ok (.ldc_w is, 3)) (d7 : decode cc (pc + 7) = .ok (.invokespecial ic, 3)) (d10 : decode cc (pc + 10) = .ok (.athrow, 1))
    (hout : ∀ x ∈ c.exceptionTable.toList, covers x (pc + 10) = false)
    (hRframes : names.length + 3 < R.frames) (hRlocals : (rest.map fun v => v.category).sum + (13 * (names.length + 1) + 43) ≤ R.locals) (hRcells : cells + 1 ≤ R.cells) (hRslots : slots + 6 ≤ R.slots) (hlocks : meth.locks = false)
    (hx : ∀ t : State, s.vm.Alike t.vm → H.size ≤ t.heap.size → (∀ q : Nat, q < H.size → t.heap[q]? = H[q]?) → XC cls s t)
    (hf : ∀ z ∈ locs, free z.base) (hc : cells + 1 ≤ mc) (hs : slots + 6 ≤ ms) :
    W p l e R s m args below meth c H locs cells slots (vx_MQ below Qc XC args s mc ms free) (F0 m pc ls rest) := by
  intro T hT X
  have htr : e.platform.stackTraces = false := (show e.platform.stackTraces = l.stackTraces by rw [X.admits.platform]).trans hl
  have Y := vx_rebase X (R' := { frames := R.frames, locals := R.locals, cells := 1, slots := 6 }) (Nat.le_refl _) (Nat.le_refl _) hRcells hRslots
  obtain ⟨s', hA⟩ : ∃ z, z = (T.setVm s.vm).setFrames (.invoking m args :: below) := ⟨_, rfl⟩
  rw [← hA] at Y
  have hvm : s'.vm = s.vm := by rw [hA]; rfl
  have hhp : s'.heap = H := by rw [hA]; exact hT
  have hW0 : s.WarmedH s'.vm := by rw [hvm]; exact State.WarmedH.refl s
  have hat' : ∀ w ∈ vx_atS own ic cls names, w.before args s' = true := fun w hw => vx_ot_at hW0 hvm.symm (hgood w (List.mem_cons_of_mem _ (List.mem_cons_of_mem _ hw))) (hat w hw)
  have hk' : (Cond.classLink own ik cls).before args s' = true := vx_ot_at hW0 hvm.symm (hgood _ List.mem_cons_self) hk
  have hini' : (Cond.initialized cls).before args s' = true := vx_ot_at hW0 hvm.symm (hgood _ (List.mem_cons_of_mem _ List.mem_cons_self)) hini
  have hU' : vx_Zq Bundle.tN "UNASSIGNED_STACK" Bundle.steD A s' s'.heap := by rw [hhp]; exact vx_Zq.moved hW0.alike (hU.kept hS.2.1)
  have hN' : vx_Zq Bundle.tN "SUPPRESSED_SENTINEL" Bundle.listD A s' s'.heap := by rw [hhp]; exact vx_Zq.moved hW0.alike (hN.kept hS.2.1)
  have h : ∀ w ∈ Bundle.ownAtoms own ic cls names, w.before args s' = true := vx_own hat' (vx_isRefq hU'.1) (vx_isRefq hN'.1) hU'.2.word hN'.2.word
  have hown' : s'.vm.findClass own = some m.cls := by rw [hvm]; exact hown
  have hins : (Cond.instantiable cls 6).before args s' = true := h _ (by simp [Bundle.ownAtoms])
  obtain ⟨vm₁, cX, kX, hfX, hkX, -, -, X₁, st1⟩ := Y.newCold hexec (own := own) (C := cls) (index := ik) (n := 6) hown' hk' hins hini'
    (g := F0 m pc ls rest) rfl (by rw [hb]; exact d0) (Nat.le_refl _) (Nat.le_refl _)
  generalize hT1 : (T.setVm vm₁).pushCell { cls := cX, slots := kX.instanceTypes.map defaultValue, vm := .none } = T1 at X₁ st1
  have hcat : (Value.ref T.heap.size).category = 1 := rfl
  have hcellA : T1.heap[T.heap.size]? = some (freshCell cX kX) := by rw [← hT1]; exact State.heap_pushCell_size _ _
  have d3' : decode c.code (pc + 3) = .ok (.dup, 1) := by rw [hb]; exact d3
  have d4' : decode c.code (pc + 4) = .ok (.ldc_w is, 3) := by rw [hb]; exact d4
  have hstr' : vk_R own is text sa s' := vk_R.warm hW0 hstr
  obtain ⟨U, hsteps, hrun, hend, hW, hsame, ce, hce, hO⟩ := X₁.ctorThrowS hexec htr (own := own) (cls := cls) (names := names) (ic := ic) hown' hcls hnames h (fun x hx => nomatch hx) hfX hkX hcellA (by rw [hhp, hT]; exact Nat.le_refl _) (msg := .ref sa) rfl
    (g := { method := m, pc := pc + 7, locals := ls, stack := .ref sa :: .ref T.heap.size :: .ref T.heap.size :: rest, locked := none }) rfl hsize rfl rfl (rest := rest) rfl
    (by rw [hb]; exact d7) (by rw [hb]; exact d10) hout hRframes (by simp only [List.map_cons, List.sum_cons, hcat]; omega) hlocks
  obtain ⟨f1, f2⟩ := vx_frame hsame
  rw [hhp] at f1 f2
  have hWs : s.WarmedH U.vm := State.WarmedH.trans hW0 hW
  have hcl : s.vm.findClass cls = some ce.cls := by
    have h9 := hO.cls
    rw [hvm] at h9
    exact h9
  have hall : s.sameButNew ({ U with vm := s.vm } : State) locs mc ms := by
    subst hA
    obtain ⟨e1, e2⟩ := hsame
    rw [State.setFrames_setFrames] at e1
    have h2 : (T.setVm s.vm).sameButNew ({ U with vm := s.vm } : State) [] (0 + 1) (0 + 6) := ⟨e1, e2⟩
    have h3 := X.same.trans h2
    rw [List.append_nil] at h3
    exact h3.mono hc hs
  refine ⟨U, ?_, .threw T.heap.size, hrun, hend, Or.inr ⟨T.heap.size, rfl, cls, ce, locs, hx U hWs.alike f1 (fun q hq => f2 q hq (fun z hz => nomatch hz)), hce, hO.vm, hcl, hWs, hall, hf⟩⟩
  refine st1 _ ?_
  show Steps p.tables e below (T1.setTop { method := m, pc := pc + 3, locals := ls, stack := .ref T.heap.size :: rest, locked := none }) _
  jvm_step X₁.here [X₁.here.top, hexec, d3', Value.category]
  exact X₁.ldcStringW hexec (own := own) (text := text) (index := is) (a := sa) hown' hstr'.1 hstr'.2
    (g := { method := m, pc := pc + 4, locals := ls, stack := .ref T.heap.size :: .ref T.heap.size :: rest, locked := none }) rfl d4' _ hsteps
end Ends
section Bodies
variable {l : Launch}
theorem vx_ofW {y : MethodName} {ws ws' : List Cond} {rm : Room} {Pc : Array Value → State → Prop} {Qc : Array Value → State → Outcome → State → Prop} {XC : String → State → State → Prop} {mc ms : Nat} {free : Addr → Prop} {cc : ByteArray} {maxL : Nat} {ret : Option FieldType}
    (hy : plainName y.cls = true) (hw : ws = Cond.code y cc maxL ret :: ws')
    (body : ∀ p e s m args below meth c s₁, BodyLoose p l y (headSpec ws rm) cc maxL ret e s m args below meth c s₁ → c.maxLocals = maxL → (∀ x ∈ c.exceptionTable.toList, False) → Pc args s →
      W p l e (headSpec ws rm).room s m args below meth c s.heap [] 0 0 (vx_MQ below Qc XC args s mc ms free) (entryFrame m args maxL)) : vx_Met l y ws rm Pc Qc XC mc ms free := by
  refine MetFree.of_bodyS (code := cc) (maxLocals := maxL) (ret := ret) hy ?_ ?_
  · intro args s m h hn
    obtain ⟨meth, c, h1, h2, h3, h4, h5, h6, -, -⟩ := Cond.code_spec hn (atoms_spec (ws := ws) h _ (by rw [hw]; exact List.mem_cons_self))
    exact ⟨meth, c, h1, h2, h3, h4, h5, h6⟩
  · intro p e s m args below meth c s₁ B hml hP _
    have hh0 : s₁.heap = s.heap := by rw [B.state]; rfl
    have ht : ∀ x ∈ c.exceptionTable.toList, False := by
      obtain ⟨meth9, c9, h1, h2, -, -, -, -, h7, -⟩ := Cond.code_spec B.named (atoms_spec (ws := ws) B.pre _ (by rw [hw]; exact List.mem_cons_self))
      cases Option.some.inj (h1.symm.trans B.method)
      cases Option.some.inj (h2.symm.trans (Stand.of_body B).code)
      intro x hx
      rw [Array.isEmpty_iff.mp h7] at hx
      cases hx
    obtain ⟨t, a1, o, b1, b2, b3⟩ := body p e s m args below meth c s₁ B hml ht hP s₁ hh0 (Stand.of_body B)
    exact ⟨t, o, a1, b1, b2, b3⟩
/-- the table of a body with handlers -/
theorem vx_table {p : Program} {x y : MethodName} {S : Spec} {cc bytes : ByteArray} {maxL maxL' : Nat} {ret ret' : Option FieldType} {e : Env} {s s₁ : State} {m : MethodId} {args : Array Value} {below : List Frame} {meth : Method} {c : Code} {hh : List (Nat × Nat × Nat × Nat)}
    (B : BodyLoose p l y S cc maxL ret e s m args below meth c s₁) (h : (Cond.codeWith y bytes maxL' ret' hh).before args s = true) : c.exceptionTable.toList = tableOf hh := by
  obtain ⟨m9, meth9, c9, hn9, h1, h2, -, -, h6, -⟩ := Cond.codeWith_spec h
  cases Option.some.inj (hn9.symm.trans B.named)
  cases Option.some.inj (h1.symm.trans B.method)
  cases Option.some.inj (h2.symm.trans (Stand.of_body B).code)
  rw [← h6, table_eq]
end Bodies
end VXA
/-! ===== END ===== -/
/-! ===== BEGIN a static call of a method with an exception table ===== -/
section VXS
variable {p : Program} {l : Launch} {e : Env} {R : Room} {s : State} {m : MethodId} {args : Array Value} {below : List Frame} {meth : Method} {c : Code} {T : State} {H : Heap} {locs : List Loc} {cells slots : Nat}
abbrev vx_CSW (R : Room) (s : State) (args : Array Value) (own : String) (index : Nat) (y : MethodName) (bytes : ByteArray) (maxL : Nat) (ret : Option FieldType) (hh : List (Nat × Nat × Nat × Nat)) (ws : List Cond) (rm : Room) (mc ms n : Nat) : Prop :=
  (rm.cells = mc ∧ rm.slots = ms ∧ rm.frames + 1 ≤ R.frames ∧ 8 + (maxL + 11) + rm.locals ≤ R.locals ∧ (∀ w ∈ ws, ∀ (a' : Array Value) (U : State), s.WarmedH U.vm → w.before a' U = true) ∧ Cond.codeWith y bytes maxL ret hh ∈ ws) ∧
  (Cond.codeWith y bytes maxL ret hh).before args s = true ∧ (Cond.initialized y.cls).before args s = true ∧ (y.cls ≠ "java/lang/invoke/MethodHandle" ∧ y.cls ≠ "java/lang/invoke/VarHandle") ∧
  (∀ sig, parseMethodDescriptor y.desc = some sig → n = sig.parameters.length) ∧ (Cond.methodLink own index y).before args s = true ∧ (Cond.static y).before args s = true
theorem vx_cwSW {own : String} {index maxL mc ms : Nat} {y : MethodName} {bytes : ByteArray} {ret : Option FieldType} {hh : List (Nat × Nat × Nat × Nat)} {Ts ws ws' : List Cond} {rm : Room} (n : Nat) (ht : ∀ w ∈ Ts, w.before args s = true) (hT : GoodIn Ts (va_wsS own index y ws)) (hw : ws = Cond.codeWith y bytes maxL ret hh :: ws') (hrc : rm.cells = mc) (hrs : rm.slots = ms)
    (hd : y.cls ≠ "java/lang/invoke/MethodHandle" ∧ y.cls ≠ "java/lang/invoke/VarHandle" ∧ (parseMethodDescriptor y.desc).map (fun d => d.parameters.length) = some n) (hR : rm.frames + 1 ≤ R.frames ∧ 8 + (maxL + 11) + rm.locals ≤ R.locals) :
    vx_CSW R s args own index y bytes maxL ret hh ws rm mc ms n := by
  have ok : ∀ w ∈ va_wsS own index y ws, w.before args s = true := fun w h => ht w (hT w h).1
  have hG : GoodIn Ts ws := fun w h => hT w (by unfold va_wsS; exact List.mem_append_right _ h)
  have hc : Cond.codeWith y bytes maxL ret hh ∈ ws := by rw [hw]; exact List.mem_cons_self
  refine ⟨⟨hrc, hrs, hR.1, hR.2, pay_in ht hG, hc⟩, ht _ (hG _ hc).1, ok _ (by simp [va_wsS]), ⟨hd.1, hd.2.1⟩, fun sig h => ?_, ok _ (by simp [va_wsS]), ok _ (by simp [va_wsS])⟩
  have h2 := hd.2.2
  rw [h] at h2
  exact (Option.some.inj h2).symm
theorem vx_callSW (X : Stand p l e R s m args below meth c T locs cells slots) (hexec : p.tables.exec = Jvm.exec) {own : String} {index : Nat} {y : MethodName} {bytes : ByteArray} {maxL : Nat} {ret : Option FieldType} {hh : List (Nat × Nat × Nat × Nat)}
    (hown : s.vm.findClass own = some m.cls) (hlink : (Cond.methodLink own index y).before args s = true) (hstat : (Cond.static y).before args s = true) (hinit : (Cond.initialized y.cls).before args s = true)
    (hcode : (Cond.codeWith y bytes maxL ret hh).before args s = true) (hy : y.cls ≠ "java/lang/invoke/MethodHandle" ∧ y.cls ≠ "java/lang/invoke/VarHandle")
    {W9 : Nat} {Pre : Pt → Array Value → Prop} {Post : Pt → Array Value → Option Value → Pt → Prop} (hK : Back l R p e below s args y 3 W9 Pre Post)
    {g : JFrame} (hg : g.method = m) (hsize : g.locals.size = c.maxLocals) {argsL rest : List Value} (hlen : ∀ sig, parseMethodDescriptor y.desc = some sig → argsL.length = sig.parameters.length)
    (hstack : g.stack = argsL.reverse ++ rest) (hW : 2 * g.monitorRoom + (rest.map fun v => v.category).sum ≤ W9) (hdg : decode c.code g.pc = .ok (.invokestatic index, 3))
    (hpre : ∀ vm₁, s.WarmedH vm₁ → Pre ⟨T.setVm vm₁, locs, cells, slots⟩ argsL.toArray) :
    ∃ (v : Option Value) (vm₁ : Vm) (B : Pt), s.WarmedH vm₁ ∧ Stand p l e R s m args below meth c B.U B.locs B.cells B.slots ∧ Post ⟨T.setVm vm₁, locs, cells, slots⟩ argsL.toArray v B ∧
      ∀ target, Steps p.tables e below (B.U.setTop { g with pc := g.pc + 3, stack := v.toList ++ rest }) target → Steps p.tables e below (T.setTop g) target := by
  obtain ⟨mk, methM, cM, hnamed, hmethM, -, -, -, -, -, -, hsigM⟩ := Cond.codeWith_spec hcode
  have hstatic : methM.isStatic = true := Cond.static_spec hnamed hmethM hstat
  obtain ⟨kP, hkP, -⟩ := className_of_methodNamed hnamed
  have hinitP : kP.init = .initialized := Cond.initialized_spec (findClass_of_methodNamed hnamed) hkP hinit
  obtain ⟨vm₁, X₁, hstep₁⟩ := X.invokestatic hexec hown hlink hnamed hmethM hstatic hkP hinitP hy (g := g) hg (argsL := argsL) (rest := rest) (hlen _ hsigM) hstack hdg
  obtain ⟨v, B, X', hpost, hsteps⟩ := hK m meth c ⟨T.setVm vm₁, locs, cells, slots⟩ { g with stack := rest } (.invokestatic index) mk argsL.toArray X₁ hg hsize hdg hW (X₁.named hnamed) (hpre vm₁ X₁.warmed)
  exact ⟨v, vm₁, B, X₁.warmed, X', hpost, fun target h => hstep₁ _ fun acts => by rw [doInvoke_state]; exact hsteps.trans h⟩
theorem vx_runSW {y : MethodName} {bytes cc : ByteArray} {maxL nL mc ms n index : Nat} {ret : Option FieldType} {hh : List (Nat × Nat × Nat × Nat)} {ws : List Cond} {rm : Room} {Pc : Array Value → State → Prop} {Qc : Array Value → State → Outcome → State → Prop} {free : Addr → Prop} {Ts : List Cond} {own : String} {As rest : List Value} {g : JFrame}
    (S : CallFix p m c cc nL s args Ts own) (hM : Met l y ws rm Pc Qc mc ms free) (cw : vx_CSW R s args own index y bytes maxL ret hh ws rm mc ms n) (hp : PreS s H Pc As)
    (hg : g.method = m) (hn : As.length = n) (hsize : g.locals.size = nL) (hstack : g.stack = As.reverse ++ rest) (hW : 2 * g.monitorRoom + (rest.map fun v => v.category).sum ≤ 8) (hdg : decode cc g.pc = .ok (.invokestatic index, 3)) (hf : cells + mc ≤ R.cells ∧ slots + ms ≤ R.slots) :
    va_Run p l e R s m args below meth c H locs cells slots mc ms g rest (Qc As.toArray) (free) := by
  obtain ⟨⟨hrc, hrs, hfr, hlo, hws, hcw⟩, hcode, hini, hy, hlen, hl, hstt⟩ := cw
  have hK : Back l R p e below s args y 3 8 (PreOf R mc ms Pc) (PostOf Qc mc ms free) := va_backW (hh := hh) (bytes := bytes) (maxL := maxL) (ret := ret) hM hp.1 hrc hrs hfr hlo hws hcw (fun a' U hW => word_at hW (Or.inl (by first | rfl | simp [Cond.onTables, Cond.keeps, Cond.steady])) hini)
  obtain ⟨hx, hb, hml, ho, -⟩ := S
  intro T hT X
  obtain ⟨v, vm₁, ⟨U', l2, c2, s2⟩, hW₁, X', ⟨g', mk, t, L, e1, e2, hq, h1, hL, h2, h3⟩, st⟩ := vx_callSW X hx (hh := hh) (bytes := bytes) (maxL := maxL) (ret := ret) ho hl hstt hini hcode hy hK hg (hsize.trans hml.symm) (argsL := As) (rest := rest) (fun sig h => hn.trans (hlen sig h)) hstack hW (by rw [hb]; exact hdg)
    (fun vm₁ hW₁ => ⟨hf.1, hf.2, hp.2 (T.setVm vm₁) hT hW₁⟩)
  dsimp only [Pt.U, Pt.locs, Pt.cells, Pt.slots] at X' e1 e2 h1 h2 h3 st
  subst h1; subst h2; subst h3
  exact ⟨v, (T.setVm vm₁).calling g' mk As.toArray, t, U', L, hT, X', hL, e1, e2, hq, st⟩
/-- not caught here, past rows that name other classes: it goes on to the caller -/
theorem vx_outP {p : Program} {l : Launch} {e : Env} {R : Room} {s : State} {m : MethodId} {args : Array Value} {below : List Frame} {meth : Method} {c : Code} {H : Heap} {locs : List Loc} {cells slots : Nat} {free : Addr → Prop} {ls : Array Slot} {rest : List Value} {Qc : Array Value → State → Outcome → State → Prop} {XC : String → State → State → Prop}
    {pc : Nat} {own E : String} {ce : Cell} {q : Addr} {mc ms : Nat} (hown : s.vm.findClass own = some m.cls) (hlocks : meth.locks = false)
    (hpass : ∀ z ∈ c.exceptionTable.toList, covers z pc = false ∨ (z.catchType ≠ 0 ∧ ∃ nm : String, (Cond.classLink own z.catchType nm).before args s = true ∧ va_Nc E nm s)) (hcell : H[q]? = some ce) (hv : ce.vm = .none) (hcl : s.vm.findClass E = some ce.cls)
    (hx : ∀ t : State, t.heap = H → s.vm.Alike t.vm → XC E s t) (hf : ∀ z ∈ locs, free z.base) (hc : cells ≤ mc) (hs : slots ≤ ms) :
    vx_W p l e R s m args below meth c H locs cells slots (vx_MQ below Qc XC args s mc ms free) (F0 m pc ls rest) q := by
  intro T hT X
  have hpl : e.platform.magicAccessors = ({} : Platform).magicAccessors := by rw [X.admits.platform]
  obtain ⟨vm', hW', X', st⟩ := X.outThrough hlocks q (g := F0 m pc ls rest) rfl rfl rfl (cell := ce) (by rw [hT]; exact hcell) (by rw [hv]; rfl)
    (by obtain ⟨k9, h9, -⟩ := Vm.findClass_spec hcl; exact ⟨k9, h9⟩) (fun z hz => by
      rcases hpass z hz with h | ⟨hz0, nm, hl1, hn1⟩
      · exact Or.inl h
      · obtain ⟨c6, hc6, hcl6⟩ := Cond.classLink_spec hown hl1 e.platform hpl
        obtain ⟨a8, b8, h1, h2, h3⟩ := hn1
        cases Option.some.inj (h1.symm.trans hcl)
        cases Option.some.inj (h2.symm.trans hc6)
        exact Or.inr ⟨hz0, _, hcl6, h3⟩)
  obtain ⟨g₀, hfr⟩ := X'.frames_eq
  have hcell9 : ((T.setVm vm').setFrames (.throwing q :: below)).heap[q]? = some ce := by
    show T.heap[q]? = some ce
    rw [hT]; exact hcell
  have hend : Ended ((T.setVm vm').setFrames (.throwing q :: below)) below (.threw q) := State.frames_setFrames _ (State.cur_lt_of_frames hfr)
  refine ⟨(T.setVm vm').setFrames (.throwing q :: below), ?_, .threw q, X'.here.running, hend, Or.inr ⟨q, rfl, E, ce, locs, hx _ hT (X'.ends _).1.alike, hcell9, hv, hcl, (X'.ends _).1, (X'.ends _).2.mono hc hs, hf⟩⟩
  rw [X.pushThrowing_eq]
  exact st
/-- a thing of a world lies in the heap -/
theorem vx_lt {D : va_G} {cl : List vw_C} {ws : va_W} {H1 : Heap} (h : va_P D cl ws H1) {k : Nat} {q : Nat × va_E} (hk : ws[k]? = some q) : q.1 < H1.size := (h k q hk).lt
end VXS
/-! ===== END ===== -/
/-! ===== BEGIN methods with a table of their own: called by a name, returning or throwing ===== -/
section VXH
/-! vx_backW, vx_callVX, vx_callSX, vx_callVW, vx_runVW, vx_runVX, vx_runSX, vx_ofWH follow the same proofs as their sisters above (Free/Laws.lean, Shelf42/LK1.lean); vx_outP calls Shelf42/NT130.lean (outThrough). -/
section
variable {l : Launch} {R : Room} {p : Program} {e : Env} {below : List Frame} {s : State} {sargs : Array Value} {y : MethodName} {len W9 : Nat}
theorem vx_backW {ws : List Cond} {rm : Room} {Pc : Array Value → State → Prop} {Qc : Array Value → State → Outcome → State → Prop} {XC : String → State → State → Prop} {mc ms : Nat} {free : Addr → Prop} {bytes : ByteArray} {maxL : Nat} {ret : Option FieldType} {hh : List (Nat × Nat × Nat × Nat)}
    (hM : vx_Met l y ws rm Pc Qc XC mc ms free) (hblind : FrameBlind Pc) (hrc : rm.cells = mc) (hrs : rm.slots = ms)
    (hframes : rm.frames + 1 ≤ R.frames) (hlocals : W9 + (maxL + 11) + rm.locals ≤ R.locals)
    (hws : ∀ w ∈ ws, ∀ a' U, s.WarmedH U.vm → w.before a' U = true) (hcode : Cond.codeWith y bytes maxL ret hh ∈ ws) (hinit : ∀ a' U, s.WarmedH U.vm → (Cond.initialized y.cls).before a' U = true) :
    vx_Back l R p e below s sargs y len W9 (PreOf R mc ms Pc) (PostOf Qc mc ms free) (vx_Post XC mc ms free) := by
  intro m meth c A g ig mk a X hg hsize hdg hW hn hp
  have h1 : (headSpec ws rm).pre.before a A.U = true := atoms_intro fun w hw => hws w hw _ _ X.warmed
  have h2 : (Cond.codeWith y bytes maxL ret hh).before a A.U = true := hws _ hcode _ _ X.warmed
  have h3 : (Cond.initialized y.cls).before a A.U = true := hinit _ _ X.warmed
  have h4 : A.cells + (headSpec ws rm).room.cells ≤ R.cells := by rw [show (headSpec ws rm).room.cells = mc from hrc]; exact hp.1
  have h5 : A.slots + (headSpec ws rm).room.slots ≤ R.slots := by rw [show (headSpec ws rm).room.slots = ms from hrs]; exact hp.2.1
  have hPc : Pc a (A.U.calling g mk a) := hblind _ _ _ _ hp.2.2
  obtain ⟨U, Ls, c0, s0⟩ := A
  dsimp only [Pt.U, Pt.locs, Pt.cells, Pt.slots] at h1 h2 h3 h4 h5 X hn hPc ⊢
  obtain ⟨m9, methY, cY, hn9, hmY, hcY, -, hlY, -⟩ := Cond.codeWith_spec h2
  cases Option.some.inj (hn9.symm.trans hn)
  obtain ⟨kY, hkY, -⟩ := className_of_methodNamed hn
  have hinitY : kY.init = .initialized := Cond.initialized_spec (findClass_of_methodNamed hn) hkY h3
  have h : At U g.method c below := by rw [hg]; exact X.here
  have hlocals9 : W9 + (maxL + 11) + (headSpec ws rm).room.locals ≤ R.locals := hlocals
  have happ : (headSpec ws rm).appliesLoose y e.platform (U.calling g mk a) = true :=
    Spec.appliesLoose_calling (g := g) h hdg hn hkY hinitY
      (X.room_calling (g := g) (R' := (headSpec ws rm).room) hsize hmY hcY hframes (by rw [hlY]; omega) h4 h5) h1
  obtain ⟨mid, hmid⟩ := h.above
  have hfr : (U.setTop g).frames = (.java g :: mid) ++ below := by rw [State.frames_setTop' g h.top, hmid]; rfl
  obtain ⟨o, s₂, hsteps, -, hend, hq⟩ := Steps.callFree hM p X.admits X.cas X.clock (acts := []) hfr happ hPc trivial
  have hq' : vx_Q Qc XC mc ms free a (U.calling g mk a) o s₂ := hq
  rw [State.frames_setTop' g h.top] at hend
  obtain ⟨g₀, hg0⟩ := Option.isSome_iff_exists.mp h.top
  obtain ⟨r, hr⟩ := State.topJava?_eq_some.mp hg0
  have hr' : (({ U with heap := s₂.heap, slotsUsed := s₂.slotsUsed } : State).setVm s₂.vm).frames = .java g₀ :: r := hr
  rcases hq' with ⟨hqc, L, hfe, hL⟩ | ⟨q, rfl, E, ce, L, hx, hce, hcv, hcl, hW₂, hsm, hL⟩
  · obtain ⟨⟨v, rfl⟩, hW₂, e2, q2, q3, q4, q5, q6⟩ := id hfe
    have e3 : s₂ = ({ (U.calling g mk a).setFrames s₂.frames with heap := s₂.heap, slotsUsed := s₂.slotsUsed } : State).setVm s₂.vm := by
      have : s₂ = ({ s₂ with vm := (U.calling g mk a).vm } : State).setVm s₂.vm := rfl
      rw [e2] at this
      exact this
    obtain ⟨c₂, i₂, len₂, hc₂, hd₂, hf₂⟩ := hend
    have hW' : U.WarmedH s₂.vm := hW₂
    have hcc : c₂ = c := by
      have h1 : s₂.code? g.method = U.code? g.method := by
        rw [State.code?_eq, State.code?_eq, hW'.alike.method?]
      exact Option.some.inj (hc₂.symm.trans (h1.trans h.code))
    subst hcc
    have hlen : len₂ = len := by rw [hdg] at hd₂; cases hd₂; rfl
    subst hlen
    have hs₂ : s₂ = (({ U with heap := s₂.heap, slotsUsed := s₂.slotsUsed } : State).setVm s₂.vm).setTop { g with pc := g.pc + len₂, stack := v.toList ++ g.stack } := by
      refine e3.trans ?_
      rw [hf₂, State.calling_eq h.top, State.setFrames_setFrames, State.setTop_of_frames _ hr', hr]
      rfl
    have hsame : U.sameButNew ({ U with heap := s₂.heap, slotsUsed := s₂.slotsUsed } : State) L mc ms := by
      refine ⟨?_, q2, q3, q4, q5, q6⟩
      obtain ⟨t, ht, -⟩ := State.frames_cons hr
      show ({ U with heap := s₂.heap, slotsUsed := s₂.slotsUsed } : State) = { U.setFrames U.frames with heap := s₂.heap, slotsUsed := s₂.slotsUsed }
      rw [State.setFrames_self ht]
    subst hg
    refine Or.inl ⟨v, ⟨(({ U with heap := s₂.heap, slotsUsed := s₂.slotsUsed } : State).setVm s₂.vm), Ls ++ L, c0 + mc, s0 + ms⟩,
      ⟨X.admits, X.cas, X.clock, X.frames, X.room, X.hears, X.method, X.code, (X.here.setHeapUsed s₂.heap s₂.slotsUsed).setVm hW'.alike, X.tail, State.WarmedH.trans X.warmed hW', X.limits, X.bytes, X.same.trans (hsame.setVm s.vm)⟩,
      ⟨g, mk, s₂, L, rfl, rfl, hqc, rfl, hL, rfl, rfl⟩, ?_⟩
    show Steps p.tables e below _ ((({ U with heap := s₂.heap, slotsUsed := s₂.slotsUsed } : State).setVm s₂.vm).setTop { g with pc := g.pc + len₂, stack := v.toList ++ g.stack })
    rw [← hs₂]
    exact hsteps
  · obtain ⟨e2, q2, q3, q4, q5, q6⟩ := id hsm
    have e3 : s₂ = ({ (U.calling g mk a).setFrames s₂.frames with heap := s₂.heap, slotsUsed := s₂.slotsUsed } : State).setVm s₂.vm := by
      have : s₂ = ({ s₂ with vm := (U.calling g mk a).vm } : State).setVm s₂.vm := rfl
      rw [e2] at this
      exact this
    have hf₂ : s₂.frames = .throwing q :: .java g :: U.frames.tail := hend
    have hW' : U.WarmedH s₂.vm := hW₂
    have hs₂ : s₂ = ((({ U with heap := s₂.heap, slotsUsed := s₂.slotsUsed } : State).setVm s₂.vm).setTop g).pushFrame (.throwing q) := by
      refine e3.trans ?_
      rw [hf₂, State.calling_eq h.top, State.setFrames_setFrames, State.pushFrame, State.frames_setTop _ hr', State.setTop_of_frames _ hr', State.setFrames_setFrames, hr]
      rfl
    have hsame : U.sameButNew ({ U with heap := s₂.heap, slotsUsed := s₂.slotsUsed } : State) L mc ms := by
      refine ⟨?_, q2, q3, q4, q5, q6⟩
      obtain ⟨t, ht, -⟩ := State.frames_cons hr
      show ({ U with heap := s₂.heap, slotsUsed := s₂.slotsUsed } : State) = { U.setFrames U.frames with heap := s₂.heap, slotsUsed := s₂.slotsUsed }
      rw [State.setFrames_self ht]
    subst hg
    refine Or.inr ⟨q, ⟨(({ U with heap := s₂.heap, slotsUsed := s₂.slotsUsed } : State).setVm s₂.vm), Ls ++ L, c0 + mc, s0 + ms⟩,
      ⟨X.admits, X.cas, X.clock, X.frames, X.room, X.hears, X.method, X.code, (X.here.setHeapUsed s₂.heap s₂.slotsUsed).setVm hW'.alike, X.tail, State.WarmedH.trans X.warmed hW', X.limits, X.bytes, X.same.trans (hsame.setVm s.vm)⟩,
      ⟨g, mk, s₂, L, E, ce, rfl, rfl, hx, hce, hcv, hcl, rfl, hL, rfl, rfl⟩, ?_⟩
    show Steps p.tables e below _ (((({ U with heap := s₂.heap, slotsUsed := s₂.slotsUsed } : State).setVm s₂.vm).setTop g).pushFrame (.throwing q))
    rw [← hs₂]
    exact hsteps
end
variable {p : Program} {l : Launch} {e : Env} {R : Room} {s : State} {m : MethodId} {args : Array Value} {below : List Frame} {meth : Method} {c : Code} {T : State} {H : Heap} {locs : List Loc} {cells slots : Nat}
theorem vx_callVX (X : Stand p l e R s m args below meth c T locs cells slots) (hexec : p.tables.exec = Jvm.exec) {own C : String} {index : Nat} {y : MethodName} {bytes : ByteArray} {maxL : Nat} {ret : Option FieldType} {hh : List (Nat × Nat × Nat × Nat)}
    (hown : s.vm.findClass own = some m.cls) (hlink : (Cond.methodLink own index y).before args s = true) (hinst : (Cond.instanceMethod y).before args s = true) (hsel : (Cond.selects C y y).before args s = true)
    (hcode : (Cond.codeWith y bytes maxL ret hh).before args s = true) (hy : y.cls ≠ "java/lang/invoke/MethodHandle" ∧ y.cls ≠ "java/lang/invoke/VarHandle")
    {W9 : Nat} {Pre : Pt → Array Value → Prop} {Post : Pt → Array Value → Option Value → Pt → Prop} {PostX : Pt → Array Value → Addr → Pt → Prop} (hK : vx_Back l R p e below s args y 3 W9 Pre Post PostX)
    {b : Addr} {cellB : Cell} (hcell : T.heap[b]? = some cellB) (hobj : cellB.vm.isStatics = false) (hcls : s.vm.findClass C = some cellB.cls)
    {g : JFrame} (hg : g.method = m) (hsize : g.locals.size = c.maxLocals) {argsL rest : List Value} (hlen : ∀ sig, parseMethodDescriptor y.desc = some sig → argsL.length = sig.parameters.length)
    (hstack : g.stack = argsL.reverse ++ .ref b :: rest) (hW : 2 * g.monitorRoom + (rest.map fun v => v.category).sum ≤ W9) (hdg : decode c.code g.pc = .ok (.invokevirtual index, 3))
    (hpre : ∀ vm₁, s.WarmedH vm₁ → Pre ⟨T.setVm vm₁, locs, cells, slots⟩ (Value.ref b :: argsL).toArray) :
    (∃ (v : Option Value) (vm₁ : Vm) (B : Pt), s.WarmedH vm₁ ∧ Stand p l e R s m args below meth c B.U B.locs B.cells B.slots ∧ Post ⟨T.setVm vm₁, locs, cells, slots⟩ (Value.ref b :: argsL).toArray v B ∧
      ∀ target, Steps p.tables e below (B.U.setTop { g with pc := g.pc + 3, stack := v.toList ++ rest }) target → Steps p.tables e below (T.setTop g) target) ∨
    (∃ (q : Addr) (vm₁ : Vm) (B : Pt), s.WarmedH vm₁ ∧ Stand p l e R s m args below meth c B.U B.locs B.cells B.slots ∧ PostX ⟨T.setVm vm₁, locs, cells, slots⟩ (Value.ref b :: argsL).toArray q B ∧
      Steps p.tables e below (T.setTop g) ((B.U.setTop { g with stack := rest }).pushFrame (.throwing q))) := by
  obtain ⟨mk, methM, hnamed, hmethM, hstM, habM⟩ := Cond.instanceMethod_spec hinst
  obtain ⟨m8, methM', cM, hn8, hmethM', -, -, -, -, -, -, hsigM⟩ := Cond.codeWith_spec hcode
  cases Option.some.inj (hn8.symm.trans hnamed)
  cases hmethM.symm.trans hmethM'
  obtain ⟨c2, r2, m2, q1, q2, q3, q4, kP, hkP, hkPi⟩ := Cond.selects_spec hsel
  cases hcls.symm.trans q1
  cases (State.methodFound?_of_named hnamed hy).symm.trans q2
  cases hnamed.symm.trans q3
  have hselP : selectMethod e.platform s.vm cellB.cls mk = .method mk := by rw [Launch.admits_selectMethod X.admits]; exact q4
  obtain ⟨vm₁, X₁, hstep₁⟩ := X.invokevirtual hexec hown hlink hnamed hmethM hstM hkP hkPi hy (a := b) (cell := cellB) hcell
    (fun z h => by rw [h] at hobj; cases hobj) hselP hmethM habM hkP hkPi (g := g) hg (argsL := argsL) (rest := rest) (hlen _ hsigM) hstack hdg
  rcases hK m meth c ⟨T.setVm vm₁, locs, cells, slots⟩ { g with stack := rest } (.invokevirtual index) mk (Value.ref b :: argsL).toArray X₁ hg hsize hdg hW (X₁.named hnamed) (hpre vm₁ X₁.warmed) with ⟨v, B, X', hpost, hsteps⟩ | ⟨q, B, X', hpost, hsteps⟩
  · exact Or.inl ⟨v, vm₁, B, X₁.warmed, X', hpost, fun target h => hstep₁ _ fun acts => by rw [doInvoke_state]; exact hsteps.trans h⟩
  · exact Or.inr ⟨q, vm₁, B, X₁.warmed, X', hpost, hstep₁ _ fun acts => by rw [doInvoke_state]; exact hsteps⟩
theorem vx_callSX (X : Stand p l e R s m args below meth c T locs cells slots) (hexec : p.tables.exec = Jvm.exec) {own : String} {index : Nat} {y : MethodName} {bytes : ByteArray} {maxL : Nat} {ret : Option FieldType} {hh : List (Nat × Nat × Nat × Nat)}
    (hown : s.vm.findClass own = some m.cls) (hlink : (Cond.methodLink own index y).before args s = true) (hstat : (Cond.static y).before args s = true) (hinit : (Cond.initialized y.cls).before args s = true)
    (hcode : (Cond.codeWith y bytes maxL ret hh).before args s = true) (hy : y.cls ≠ "java/lang/invoke/MethodHandle" ∧ y.cls ≠ "java/lang/invoke/VarHandle")
    {W9 : Nat} {Pre : Pt → Array Value → Prop} {Post : Pt → Array Value → Option Value → Pt → Prop} {PostX : Pt → Array Value → Addr → Pt → Prop} (hK : vx_Back l R p e below s args y 3 W9 Pre Post PostX)
    {g : JFrame} (hg : g.method = m) (hsize : g.locals.size = c.maxLocals) {argsL rest : List Value} (hlen : ∀ sig, parseMethodDescriptor y.desc = some sig → argsL.length = sig.parameters.length)
    (hstack : g.stack = argsL.reverse ++ rest) (hW : 2 * g.monitorRoom + (rest.map fun v => v.category).sum ≤ W9) (hdg : decode c.code g.pc = .ok (.invokestatic index, 3))
    (hpre : ∀ vm₁, s.WarmedH vm₁ → Pre ⟨T.setVm vm₁, locs, cells, slots⟩ argsL.toArray) :
    (∃ (v : Option Value) (vm₁ : Vm) (B : Pt), s.WarmedH vm₁ ∧ Stand p l e R s m args below meth c B.U B.locs B.cells B.slots ∧ Post ⟨T.setVm vm₁, locs, cells, slots⟩ argsL.toArray v B ∧
      ∀ target, Steps p.tables e below (B.U.setTop { g with pc := g.pc + 3, stack := v.toList ++ rest }) target → Steps p.tables e below (T.setTop g) target) ∨
    (∃ (q : Addr) (vm₁ : Vm) (B : Pt), s.WarmedH vm₁ ∧ Stand p l e R s m args below meth c B.U B.locs B.cells B.slots ∧ PostX ⟨T.setVm vm₁, locs, cells, slots⟩ argsL.toArray q B ∧
      Steps p.tables e below (T.setTop g) ((B.U.setTop { g with stack := rest }).pushFrame (.throwing q))) := by
  obtain ⟨mk, methM, cM, hnamed, hmethM, -, -, -, -, -, -, hsigM⟩ := Cond.codeWith_spec hcode
  have hstatic : methM.isStatic = true := Cond.static_spec hnamed hmethM hstat
  obtain ⟨kP, hkP, -⟩ := className_of_methodNamed hnamed
  have hinitP : kP.init = .initialized := Cond.initialized_spec (findClass_of_methodNamed hnamed) hkP hinit
  obtain ⟨vm₁, X₁, hstep₁⟩ := X.invokestatic hexec hown hlink hnamed hmethM hstatic hkP hinitP hy (g := g) hg (argsL := argsL) (rest := rest) (hlen _ hsigM) hstack hdg
  rcases hK m meth c ⟨T.setVm vm₁, locs, cells, slots⟩ { g with stack := rest } (.invokestatic index) mk argsL.toArray X₁ hg hsize hdg hW (X₁.named hnamed) (hpre vm₁ X₁.warmed) with ⟨v, B, X', hpost, hsteps⟩ | ⟨q, B, X', hpost, hsteps⟩
  · exact Or.inl ⟨v, vm₁, B, X₁.warmed, X', hpost, fun target h => hstep₁ _ fun acts => by rw [doInvoke_state]; exact hsteps.trans h⟩
  · exact Or.inr ⟨q, vm₁, B, X₁.warmed, X', hpost, hstep₁ _ fun acts => by rw [doInvoke_state]; exact hsteps⟩
theorem vx_callVW (X : Stand p l e R s m args below meth c T locs cells slots) (hexec : p.tables.exec = Jvm.exec) {own C : String} {index : Nat} {y : MethodName} {bytes : ByteArray} {maxL : Nat} {ret : Option FieldType} {hh : List (Nat × Nat × Nat × Nat)}
    (hown : s.vm.findClass own = some m.cls) (hlink : (Cond.methodLink own index y).before args s = true) (hinst : (Cond.instanceMethod y).before args s = true) (hsel : (Cond.selects C y y).before args s = true)
    (hcode : (Cond.codeWith y bytes maxL ret hh).before args s = true) (hy : y.cls ≠ "java/lang/invoke/MethodHandle" ∧ y.cls ≠ "java/lang/invoke/VarHandle")
    {W9 : Nat} {Pre : Pt → Array Value → Prop} {Post : Pt → Array Value → Option Value → Pt → Prop} (hK : Back l R p e below s args y 3 W9 Pre Post)
    {b : Addr} {cellB : Cell} (hcell : T.heap[b]? = some cellB) (hobj : cellB.vm.isStatics = false) (hcls : s.vm.findClass C = some cellB.cls)
    {g : JFrame} (hg : g.method = m) (hsize : g.locals.size = c.maxLocals) {argsL rest : List Value} (hlen : ∀ sig, parseMethodDescriptor y.desc = some sig → argsL.length = sig.parameters.length)
    (hstack : g.stack = argsL.reverse ++ .ref b :: rest) (hW : 2 * g.monitorRoom + (rest.map fun v => v.category).sum ≤ W9) (hdg : decode c.code g.pc = .ok (.invokevirtual index, 3))
    (hpre : ∀ vm₁, s.WarmedH vm₁ → Pre ⟨T.setVm vm₁, locs, cells, slots⟩ (Value.ref b :: argsL).toArray) :
    ∃ (v : Option Value) (vm₁ : Vm) (B : Pt), s.WarmedH vm₁ ∧ Stand p l e R s m args below meth c B.U B.locs B.cells B.slots ∧ Post ⟨T.setVm vm₁, locs, cells, slots⟩ (Value.ref b :: argsL).toArray v B ∧
      ∀ target, Steps p.tables e below (B.U.setTop { g with pc := g.pc + 3, stack := v.toList ++ rest }) target → Steps p.tables e below (T.setTop g) target := by
  obtain ⟨mk, methM, hnamed, hmethM, hstM, habM⟩ := Cond.instanceMethod_spec hinst
  obtain ⟨m8, methM', cM, hn8, hmethM', -, -, -, -, -, -, hsigM⟩ := Cond.codeWith_spec hcode
  cases Option.some.inj (hn8.symm.trans hnamed)
  cases hmethM.symm.trans hmethM'
  obtain ⟨c2, r2, m2, q1, q2, q3, q4, kP, hkP, hkPi⟩ := Cond.selects_spec hsel
  cases hcls.symm.trans q1
  cases (State.methodFound?_of_named hnamed hy).symm.trans q2
  cases hnamed.symm.trans q3
  have hselP : selectMethod e.platform s.vm cellB.cls mk = .method mk := by rw [Launch.admits_selectMethod X.admits]; exact q4
  obtain ⟨vm₁, X₁, hstep₁⟩ := X.invokevirtual hexec hown hlink hnamed hmethM hstM hkP hkPi hy (a := b) (cell := cellB) hcell
    (fun z h => by rw [h] at hobj; cases hobj) hselP hmethM habM hkP hkPi (g := g) hg (argsL := argsL) (rest := rest) (hlen _ hsigM) hstack hdg
  obtain ⟨v, B, X', hpost, hsteps⟩ := hK m meth c ⟨T.setVm vm₁, locs, cells, slots⟩ { g with stack := rest } (.invokevirtual index) mk (Value.ref b :: argsL).toArray X₁ hg hsize hdg hW (X₁.named hnamed) (hpre vm₁ X₁.warmed)
  exact ⟨v, vm₁, B, X₁.warmed, X', hpost, fun target h => hstep₁ _ fun acts => by rw [doInvoke_state]; exact hsteps.trans h⟩
abbrev vx_CVW (R : Room) (s : State) (args : Array Value) (own C : String) (index : Nat) (y : MethodName) (bytes : ByteArray) (maxL : Nat) (ret : Option FieldType) (hh : List (Nat × Nat × Nat × Nat)) (ws : List Cond) (rm : Room) (mc ms n : Nat) : Prop :=
  (rm.cells = mc ∧ rm.slots = ms ∧ rm.frames + 1 ≤ R.frames ∧ 8 + (maxL + 11) + rm.locals ≤ R.locals ∧ (∀ w ∈ ws, ∀ (a' : Array Value) (U : State), s.WarmedH U.vm → w.before a' U = true) ∧ Cond.codeWith y bytes maxL ret hh ∈ ws) ∧
  (Cond.codeWith y bytes maxL ret hh).before args s = true ∧ (Cond.initialized y.cls).before args s = true ∧ (y.cls ≠ "java/lang/invoke/MethodHandle" ∧ y.cls ≠ "java/lang/invoke/VarHandle") ∧
  (∀ sig, parseMethodDescriptor y.desc = some sig → n = sig.parameters.length) ∧ (Cond.methodLink own index y).before args s = true ∧ (Cond.instanceMethod y).before args s = true ∧ (Cond.selects C y y).before args s = true
theorem vx_cwVW {own C : String} {index maxL mc ms : Nat} {y : MethodName} {bytes : ByteArray} {ret : Option FieldType} {hh : List (Nat × Nat × Nat × Nat)} {Ts ws ws' : List Cond} {rm : Room} (n : Nat) (ht : ∀ w ∈ Ts, w.before args s = true) (hT : GoodIn Ts (wsV own index C y ws)) (hw : ws = Cond.codeWith y bytes maxL ret hh :: ws') (hrc : rm.cells = mc) (hrs : rm.slots = ms)
    (hd : y.cls = C ∧ y.cls ≠ "java/lang/invoke/MethodHandle" ∧ y.cls ≠ "java/lang/invoke/VarHandle" ∧ (parseMethodDescriptor y.desc).map (fun d => d.parameters.length) = some n) (hR : rm.frames + 1 ≤ R.frames ∧ 8 + (maxL + 11) + rm.locals ≤ R.locals) :
    vx_CVW R s args own C index y bytes maxL ret hh ws rm mc ms n := by
  obtain ⟨hC, hd⟩ := hd
  subst hC
  have ok : ∀ w ∈ wsV own index y.cls y ws, w.before args s = true := fun w h => ht w (hT w h).1
  have hG : GoodIn Ts ws := fun w h => hT w (by unfold wsV; exact List.mem_append_right _ h)
  have hc : Cond.codeWith y bytes maxL ret hh ∈ ws := by rw [hw]; exact List.mem_cons_self
  refine ⟨⟨hrc, hrs, hR.1, hR.2, pay_in ht hG, hc⟩, ht _ (hG _ hc).1, ok _ (by simp [wsV]), ⟨hd.1, hd.2.1⟩, fun sig h => ?_, ok _ (by simp [wsV]), ok _ (by simp [wsV]), ok _ (by simp [wsV])⟩
  have h2 := hd.2.2
  rw [h] at h2
  exact (Option.some.inj h2).symm
theorem vx_runVW {y : MethodName} {bytes cc : ByteArray} {maxL nL mc ms n index : Nat} {ret : Option FieldType} {hh : List (Nat × Nat × Nat × Nat)} {ws : List Cond} {rm : Room} {Pc : Array Value → State → Prop} {Qc : Array Value → State → Outcome → State → Prop} {free : Addr → Prop} {Ts : List Cond} {own C : String} {b : Addr} {As rest : List Value} {g : JFrame}
    (S : CallFix p m c cc nL s args Ts own) (hM : Met l y ws rm Pc Qc mc ms free) (cw : vx_CVW R s args own C index y bytes maxL ret hh ws rm mc ms n) (hp : PreV s H C b Pc As)
    (hg : g.method = m) (hn : As.length = n) (hsize : g.locals.size = nL) (hstack : g.stack = As.reverse ++ .ref b :: rest) (hW : 2 * g.monitorRoom + (rest.map fun v => v.category).sum ≤ 8) (hdg : decode cc g.pc = .ok (.invokevirtual index, 3)) (hf : cells + mc ≤ R.cells ∧ slots + ms ≤ R.slots) :
    va_Run p l e R s m args below meth c H locs cells slots mc ms g rest (Qc (Value.ref b :: As).toArray) free := by
  obtain ⟨⟨hrc, hrs, hfr, hlo, hws, hcw⟩, hcode, hini, hy, hlen, hl, hin, hse⟩ := cw
  have hK : Back l R p e below s args y 3 8 (PreOf R mc ms Pc) (PostOf Qc mc ms free) := va_backW (hh := hh) (bytes := bytes) (maxL := maxL) (ret := ret) hM hp.1 hrc hrs hfr hlo hws hcw (fun a' U hW => word_at hW (Or.inl (by first | rfl | simp [Cond.onTables, Cond.keeps, Cond.steady])) hini)
  obtain ⟨hx, hb, hml, ho, -⟩ := S
  obtain ⟨-, ⟨cellB, hcB, hoB, hclB⟩, hPc⟩ := hp
  intro T hT X
  obtain ⟨v, vm₁, ⟨U', l2, c2, s2⟩, hW₁, X', ⟨g', mk, t, L, e1, e2, hq, h1, hL, h2, h3⟩, st⟩ := vx_callVW X hx (C := C) (hh := hh) (bytes := bytes) (maxL := maxL) (ret := ret) ho hl hin hse hcode hy hK (by rw [hT]; exact hcB) hoB hclB hg (hsize.trans hml.symm) (argsL := As) (rest := rest) (fun sig h => hn.trans (hlen sig h)) hstack hW (by rw [hb]; exact hdg)
    (fun vm₁ hW₁ => ⟨hf.1, hf.2, hPc (T.setVm vm₁) hT hW₁⟩)
  dsimp only [Pt.U, Pt.locs, Pt.cells, Pt.slots] at X' e1 e2 h1 h2 h3 st
  subst h1; subst h2; subst h3
  exact ⟨v, (T.setVm vm₁).calling g' mk (Value.ref b :: As).toArray, t, U', L, hT, X', hL, e1, e2, hq, st⟩
section
variable {y : MethodName} {bytes cc : ByteArray} {maxL nL mc ms n index : Nat} {ret : Option FieldType} {ws : List Cond} {rm : Room} {Pc : Array Value → State → Prop} {Qc : Array Value → State → Outcome → State → Prop} {XC : String → State → State → Prop} {free : Addr → Prop} {Ts : List Cond} {own C : String} {b : Addr} {As rest : List Value} {g : JFrame}
theorem vx_runVX {hh : List (Nat × Nat × Nat × Nat)} (S : CallFix p m c cc nL s args Ts own) (hM : vx_Met l y ws rm Pc Qc XC mc ms free) (cw : vx_CVW R s args own C index y bytes maxL ret hh ws rm mc ms n) (hp : PreV s H C b Pc As)
    (hg : g.method = m) (hn : As.length = n) (hsize : g.locals.size = nL) (hstack : g.stack = As.reverse ++ .ref b :: rest) (hW : 2 * g.monitorRoom + (rest.map fun v => v.category).sum ≤ 8) (hdg : decode cc g.pc = .ok (.invokevirtual index, 3)) (hf : cells + mc ≤ R.cells ∧ slots + ms ≤ R.slots) :
    vx_Run p l e R s m args below meth c H locs cells slots mc ms g rest (Qc (Value.ref b :: As).toArray) XC free := by
  obtain ⟨⟨hrc, hrs, hfr, hlo, hws, hcw⟩, hcode, hini, hy, hlen, hl, hin, hse⟩ := cw
  have hK : vx_Back l R p e below s args y 3 8 (PreOf R mc ms Pc) (PostOf Qc mc ms free) (vx_Post XC mc ms free) := vx_backW (hh := hh) (bytes := bytes) (maxL := maxL) (ret := ret) hM hp.1 hrc hrs hfr hlo hws hcw (fun a' U hW => word_at hW (Or.inl (by first | rfl | simp [Cond.onTables, Cond.keeps, Cond.steady])) hini)
  obtain ⟨hx, hb, hml, ho, -⟩ := S
  obtain ⟨-, ⟨cellB, hcB, hoB, hclB⟩, hPc⟩ := hp
  intro T hT X
  rcases vx_callVX X hx (C := C) (hh := hh) (bytes := bytes) (maxL := maxL) (ret := ret) ho hl hin hse hcode hy hK (by rw [hT]; exact hcB) hoB hclB hg (hsize.trans hml.symm) (argsL := As) (rest := rest) (fun sig h => hn.trans (hlen sig h)) hstack hW (by rw [hb]; exact hdg)
    (fun vm₁ hW₁ => ⟨hf.1, hf.2, hPc (T.setVm vm₁) hT hW₁⟩) with ⟨v, vm₁, ⟨U', l2, c2, s2⟩, hW₁, X', ⟨g', mk, t, L, e1, e2, hq, h1, hL, h2, h3⟩, st⟩ | ⟨q, vm₁, ⟨U', l2, c2, s2⟩, hW₁, X', ⟨g', mk, t, L, E, ce, e1, e2, hq, hce, hcv, hcl, h1, hL, h2, h3⟩, st⟩
  · dsimp only [Pt.U, Pt.locs, Pt.cells, Pt.slots] at X' e1 e2 h1 h2 h3 st
    subst h1; subst h2; subst h3
    exact Or.inl ⟨v, (T.setVm vm₁).calling g' mk (Value.ref b :: As).toArray, t, U', L, hT, X', hL, e1, e2, hq, st⟩
  · dsimp only [Pt.U, Pt.locs, Pt.cells, Pt.slots] at X' e1 e2 h1 h2 h3 st hcl
    subst h1; subst h2; subst h3
    exact Or.inr ⟨q, (T.setVm vm₁).calling g' mk (Value.ref b :: As).toArray, t, U', L, E, ce, hT, X', hL, e1, e2, hq, hce, hcv, vx_cls hW₁ hcl, st⟩
theorem vx_runSX {hh : List (Nat × Nat × Nat × Nat)} (S : CallFix p m c cc nL s args Ts own) (hM : vx_Met l y ws rm Pc Qc XC mc ms free) (cw : vx_CSW R s args own index y bytes maxL ret hh ws rm mc ms n) (hp : PreS s H Pc As)
    (hg : g.method = m) (hn : As.length = n) (hsize : g.locals.size = nL) (hstack : g.stack = As.reverse ++ rest) (hW : 2 * g.monitorRoom + (rest.map fun v => v.category).sum ≤ 8) (hdg : decode cc g.pc = .ok (.invokestatic index, 3)) (hf : cells + mc ≤ R.cells ∧ slots + ms ≤ R.slots) :
    vx_Run p l e R s m args below meth c H locs cells slots mc ms g rest (Qc As.toArray) XC free := by
  obtain ⟨⟨hrc, hrs, hfr, hlo, hws, hcw⟩, hcode, hini, hy, hlen, hl, hstt⟩ := cw
  have hK : vx_Back l R p e below s args y 3 8 (PreOf R mc ms Pc) (PostOf Qc mc ms free) (vx_Post XC mc ms free) := vx_backW (hh := hh) (bytes := bytes) (maxL := maxL) (ret := ret) hM hp.1 hrc hrs hfr hlo hws hcw (fun a' U hW => word_at hW (Or.inl (by first | rfl | simp [Cond.onTables, Cond.keeps, Cond.steady])) hini)
  obtain ⟨hx, hb, hml, ho, -⟩ := S
  intro T hT X
  rcases vx_callSX X hx (hh := hh) (bytes := bytes) (maxL := maxL) (ret := ret) ho hl hstt hini hcode hy hK hg (hsize.trans hml.symm) (argsL := As) (rest := rest) (fun sig h => hn.trans (hlen sig h)) hstack hW (by rw [hb]; exact hdg)
    (fun vm₁ hW₁ => ⟨hf.1, hf.2, hp.2 (T.setVm vm₁) hT hW₁⟩) with ⟨v, vm₁, ⟨U', l2, c2, s2⟩, hW₁, X', ⟨g', mk, t, L, e1, e2, hq, h1, hL, h2, h3⟩, st⟩ | ⟨q, vm₁, ⟨U', l2, c2, s2⟩, hW₁, X', ⟨g', mk, t, L, E, ce, e1, e2, hq, hce, hcv, hcl, h1, hL, h2, h3⟩, st⟩
  · dsimp only [Pt.U, Pt.locs, Pt.cells, Pt.slots] at X' e1 e2 h1 h2 h3 st
    subst h1; subst h2; subst h3
    exact Or.inl ⟨v, (T.setVm vm₁).calling g' mk As.toArray, t, U', L, hT, X', hL, e1, e2, hq, st⟩
  · dsimp only [Pt.U, Pt.locs, Pt.cells, Pt.slots] at X' e1 e2 h1 h2 h3 st hcl
    subst h1; subst h2; subst h3
    exact Or.inr ⟨q, (T.setVm vm₁).calling g' mk As.toArray, t, U', L, E, ce, hT, X', hL, e1, e2, hq, hce, hcv, vx_cls hW₁ hcl, st⟩
end
end VXH
theorem vx_ofWH {l : Launch} {y : MethodName} {ws ws' : List Cond} {rm : Room} {Pc : Array Value → State → Prop} {Qc : Array Value → State → Outcome → State → Prop} {XC : String → State → State → Prop} {mc ms : Nat} {free : Addr → Prop} {cc : ByteArray} {maxL : Nat} {ret : Option FieldType} {hh : List (Nat × Nat × Nat × Nat)}
    (hy : plainName y.cls = true) (hw : ws = Cond.codeWith y cc maxL ret hh :: ws')
    (body : ∀ p e s m args below meth c s₁, BodyLoose p l y (headSpec ws rm) cc maxL ret e s m args below meth c s₁ → c.maxLocals = maxL → Pc args s →
      W p l e (headSpec ws rm).room s m args below meth c s.heap [] 0 0 (vx_MQ below Qc XC args s mc ms free) (entryFrame m args maxL)) : vx_Met l y ws rm Pc Qc XC mc ms free := by
  refine MetFree.of_bodyS (code := cc) (maxLocals := maxL) (ret := ret) hy ?_ ?_
  · intro args s m h hn
    obtain ⟨m9, meth, c, hn9, h1, h2, h3, h4, -, h5, h6, -⟩ := Cond.codeWith_spec (atoms_spec (ws := ws) h _ (by rw [hw]; exact List.mem_cons_self))
    cases hn.symm.trans hn9
    exact ⟨meth, c, h1, h2, h3, h4, h5, h6⟩
  · intro p e s m args below meth c s₁ B hml hP _
    have hh0 : s₁.heap = s.heap := by rw [B.state]; rfl
    obtain ⟨t, a1, o, b1, b2, b3⟩ := body p e s m args below meth c s₁ B hml hP s₁ hh0 (Stand.of_body B)
    exact ⟨t, o, a1, b1, b2, b3⟩
/-! ===== END ===== -/
end
section
def RX0 : String := "PageRows$Entries"
def RX1 : String := "PageRows$Entry"
def RX2 : String := "PageRows$Memory"
def RX3 : String := "PageRows$Path"
def RX4 : String := "PageRows"
def RX5 : String := "PageRowsModel"
def RL : String := "PageRowsLaw"
def TX0 : u_T := fun k => match k with
  | 0 => ("PageRows$Entries", "rows", "[LPageRows$Entry;", true)
  | 1 => ("PageRows$Entries", "size", "I", false)
  | _ => ("PageRows$Entries", "crowdedOut", "I", false)
def tyX0 : Nat → FieldType := fun k => match k with
  | 0 => .array (.object "PageRows$Entry")
  | 1 => .int
  | _ => .int
theorem nmX0 : ∀ a, a < 3 → ∀ b, b < 3 → a ≠ b → (TX0 a).2.1 ≠ (TX0 b).2.1 := by decide +kernel
theorem tyX0_ok : ∀ k, k < 3 → parseFieldDescriptor (TX0 k).2.2.1 = some (tyX0 k) := by decide +kernel
def TX1 : u_T := fun k => match k with
  | 0 => ("PageRows$Entry", "context", "I", false)
  | 1 => ("PageRows$Entry", "largeness", "I", false)
  | 2 => ("PageRows$Entry", "bits", "I", false)
  | 3 => ("PageRows$Entry", "frame", "I", false)
  | 4 => ("PageRows$Entry", "rights", "I", false)
  | _ => ("PageRows$Entry", "changed", "Z", false)
def tyX1 : Nat → FieldType := fun k => match k with
  | 0 => .int
  | 1 => .int
  | 2 => .int
  | 3 => .int
  | 4 => .int
  | _ => .boolean
theorem nmX1 : ∀ a, a < 6 → ∀ b, b < 6 → a ≠ b → (TX1 a).2.1 ≠ (TX1 b).2.1 := by decide +kernel
theorem tyX1_ok : ∀ k, k < 6 → parseFieldDescriptor (TX1 k).2.2.1 = some (tyX1 k) := by decide +kernel
def TX2 : u_T := fun k => match k with
  | 0 => ("PageRows$Memory", "words", "[J", true)
  | 1 => ("PageRows$Memory", "hosts", "[I", true)
  | _ => ("PageRows$Memory", "hostsOn", "Z", false)
def tyX2 : Nat → FieldType := fun k => match k with
  | 0 => .array .long
  | 1 => .array .int
  | _ => .boolean
theorem nmX2 : ∀ a, a < 3 → ∀ b, b < 3 → a ≠ b → (TX2 a).2.1 ≠ (TX2 b).2.1 := by decide +kernel
theorem tyX2_ok : ∀ k, k < 3 → parseFieldDescriptor (TX2 k).2.2.1 = some (tyX2 k) := by decide +kernel
def TX3 : u_T := fun k => match k with
  | 0 => ("PageRows$Path", "memory", "LPageRows$Memory;", true)
  | 1 => ("PageRows$Path", "levels", "I", true)
  | 2 => ("PageRows$Path", "wordsPassed", "[I", true)
  | 3 => ("PageRows$Path", "reads", "I", false)
  | 4 => ("PageRows$Path", "leaf", "J", false)
  | 5 => ("PageRows$Path", "largeness", "I", false)
  | 6 => ("PageRows$Path", "faultLevel", "I", false)
  | _ => ("PageRows$Path", "reached", "I", false)
def tyX3 : Nat → FieldType := fun k => match k with
  | 0 => .object "PageRows$Memory"
  | 1 => .int
  | 2 => .array .int
  | 3 => .int
  | 4 => .long
  | 5 => .int
  | 6 => .int
  | _ => .int
theorem nmX3 : ∀ a, a < 8 → ∀ b, b < 8 → a ≠ b → (TX3 a).2.1 ≠ (TX3 b).2.1 := by decide +kernel
theorem tyX3_ok : ∀ k, k < 8 → parseFieldDescriptor (TX3 k).2.2.1 = some (tyX3 k) := by decide +kernel
def TX4 : u_T := fun k => match k with
  | 0 => ("PageRows", "levels", "I", true)
  | 1 => ("PageRows", "memory", "LPageRows$Memory;", true)
  | 2 => ("PageRows", "path", "LPageRows$Path;", true)
  | 3 => ("PageRows", "entries", "LPageRows$Entries;", true)
  | 4 => ("PageRows", "roots", "[I", true)
  | 5 => ("PageRows", "context", "I", false)
  | 6 => ("PageRows", "latestTo", "I", false)
  | 7 => ("PageRows", "latestLevel", "I", false)
  | 8 => ("PageRows", "wordsRead", "I", false)
  | 9 => ("PageRows", "byEntries", "I", false)
  | 10 => ("PageRows", "byWalks", "I", false)
  | _ => ("PageRows", "faults", "I", false)
def tyX4 : Nat → FieldType := fun k => match k with
  | 0 => .int
  | 1 => .object "PageRows$Memory"
  | 2 => .object "PageRows$Path"
  | 3 => .object "PageRows$Entries"
  | 4 => .array .int
  | 5 => .int
  | 6 => .int
  | 7 => .int
  | 8 => .int
  | 9 => .int
  | 10 => .int
  | _ => .int
theorem nmX4 : ∀ a, a < 12 → ∀ b, b < 12 → a ≠ b → (TX4 a).2.1 ≠ (TX4 b).2.1 := by decide +kernel
theorem tyX4_ok : ∀ k, k < 12 → parseFieldDescriptor (TX4 k).2.2.1 = some (tyX4 k) := by decide +kernel
def TX5 : u_T := fun k => match k with
  | 0 => ("PageRowsModel", "thrown", "I", false)
  | 1 => ("PageRowsModel", "levels", "I", true)
  | 2 => ("PageRowsModel", "room", "I", true)
  | 3 => ("PageRowsModel", "memory", "[J", true)
  | 4 => ("PageRowsModel", "context", "I", false)
  | 5 => ("PageRowsModel", "roots", "[I", true)
  | 6 => ("PageRowsModel", "hostOf", "[I", true)
  | 7 => ("PageRowsModel", "isHosted", "Z", false)
  | 8 => ("PageRowsModel", "entries", "I", false)
  | 9 => ("PageRowsModel", "uses", "I", false)
  | 10 => ("PageRowsModel", "entryContext", "[I", true)
  | 11 => ("PageRowsModel", "entryLarge", "[I", true)
  | 12 => ("PageRowsModel", "entryBits", "[I", true)
  | 13 => ("PageRowsModel", "entryFrame", "[I", true)
  | 14 => ("PageRowsModel", "entryRights", "[I", true)
  | 15 => ("PageRowsModel", "entryUse", "[I", true)
  | 16 => ("PageRowsModel", "entryChanged", "[Z", true)
  | 17 => ("PageRowsModel", "to", "I", false)
  | 18 => ("PageRowsModel", "faultLevel", "I", false)
  | 19 => ("PageRowsModel", "read", "I", false)
  | 20 => ("PageRowsModel", "byEntries", "I", false)
  | 21 => ("PageRowsModel", "byWalks", "I", false)
  | 22 => ("PageRowsModel", "faults", "I", false)
  | 23 => ("PageRowsModel", "gone", "I", false)
  | 24 => ("PageRowsModel", "fault", "I", false)
  | 25 => ("PageRowsModel", "atLevel", "I", false)
  | 26 => ("PageRowsModel", "many", "I", false)
  | 27 => ("PageRowsModel", "large", "I", false)
  | 28 => ("PageRowsModel", "came", "I", false)
  | _ => ("PageRowsModel", "wordAt", "[I", true)
def tyX5 : Nat → FieldType := fun k => match k with
  | 0 => .int
  | 1 => .int
  | 2 => .int
  | 3 => .array .long
  | 4 => .int
  | 5 => .array .int
  | 6 => .array .int
  | 7 => .boolean
  | 8 => .int
  | 9 => .int
  | 10 => .array .int
  | 11 => .array .int
  | 12 => .array .int
  | 13 => .array .int
  | 14 => .array .int
  | 15 => .array .int
  | 16 => .array .boolean
  | 17 => .int
  | 18 => .int
  | 19 => .int
  | 20 => .int
  | 21 => .int
  | 22 => .int
  | 23 => .int
  | 24 => .int
  | 25 => .int
  | 26 => .int
  | 27 => .int
  | 28 => .int
  | _ => .array .int
theorem nmX5 : ∀ a, a < 30 → ∀ b, b < 30 → a ≠ b → (TX5 a).2.1 ≠ (TX5 b).2.1 := by decide +kernel
theorem tyX5_ok : ∀ k, k < 30 → parseFieldDescriptor (TX5 k).2.2.1 = some (tyX5 k) := by decide +kernel
abbrev vwCl : List vw_C := [(RX0, TX0, 3), (RX1, TX1, 6), (RX2, TX2, 3), (RX3, TX3, 8), (RX4, TX4, 12), (RX5, TX5, 30)]
abbrev cX4_init : ByteArray := prog_1_method_1_code
def yX4_init : MethodName := ⟨RX4, "<init>", "(II)V"⟩
abbrev wX4_init : Cond := .code yX4_init cX4_init 4 none
abbrev cX4_table : ByteArray := prog_1_method_2_code
def yX4_table : MethodName := ⟨RX4, "table", "(IJ)J"⟩
abbrev wX4_table : Cond := .code yX4_table cX4_table 6 (some .long)
abbrev cX4_word : ByteArray := prog_1_method_3_code
def yX4_word : MethodName := ⟨RX4, "word", "(I)J"⟩
abbrev wX4_word : Cond := .code yX4_word cX4_word 2 (some .long)
abbrev cX4_context : ByteArray := prog_1_method_4_code
def yX4_context : MethodName := ⟨RX4, "context", "(I)I"⟩
abbrev wX4_context : Cond := .code yX4_context cX4_context 3 (some .int)
abbrev cX4_root : ByteArray := prog_1_method_5_code
def yX4_root : MethodName := ⟨RX4, "root", "(II)I"⟩
abbrev wX4_root : Cond := .code yX4_root cX4_root 4 (some .int)
abbrev cX4_host : ByteArray := prog_1_method_6_code
def yX4_host : MethodName := ⟨RX4, "host", "(II)I"⟩
abbrev wX4_host : Cond := .code yX4_host cX4_host 4 (some .int)
abbrev cX4_hosts : ByteArray := prog_1_method_7_code
def yX4_hosts : MethodName := ⟨RX4, "hosts", "(Z)Z"⟩
abbrev wX4_hosts : Cond := .code yX4_hosts cX4_hosts 3 (some .boolean)
abbrev cX4_walk : ByteArray := prog_1_method_8_code
def yX4_walk : MethodName := ⟨RX4, "walk", "(II)I"⟩
abbrev wX4_walk : Cond := .code yX4_walk cX4_walk 4 (some .int)
abbrev cX4_to : ByteArray := prog_1_method_9_code
def yX4_to : MethodName := ⟨RX4, "to", "()I"⟩
abbrev wX4_to : Cond := .code yX4_to cX4_to 1 (some .int)
abbrev cX4_level : ByteArray := prog_1_method_10_code
def yX4_level : MethodName := ⟨RX4, "level", "()I"⟩
abbrev wX4_level : Cond := .code yX4_level cX4_level 1 (some .int)
abbrev cX4_plain : ByteArray := prog_1_method_11_code
def yX4_plain : MethodName := ⟨RX4, "plain", "(II)I"⟩
abbrev wX4_plain : Cond := .code yX4_plain cX4_plain 4 (some .int)
abbrev cX4_flush : ByteArray := prog_1_method_12_code
def yX4_flush : MethodName := ⟨RX4, "flush", "(II)I"⟩
abbrev wX4_flush : Cond := .code yX4_flush cX4_flush 3 (some .int)
abbrev cX4_kept : ByteArray := prog_1_method_13_code
def yX4_kept : MethodName := ⟨RX4, "kept", "(II)I"⟩
abbrev wX4_kept : Cond := .code yX4_kept cX4_kept 3 (some .int)
abbrev cX4_stale : ByteArray := prog_1_method_14_code
def yX4_stale : MethodName := ⟨RX4, "stale", "(I)I"⟩
abbrev wX4_stale : Cond := .code yX4_stale cX4_stale 5 (some .int)
abbrev cX4_count : ByteArray := prog_1_method_15_code
def yX4_count : MethodName := ⟨RX4, "count", "(I)I"⟩
abbrev wX4_count : Cond := .code yX4_count cX4_count 2 (some .int)
abbrev cX4_translateByTables : ByteArray := prog_1_method_16_code
def yX4_translateByTables : MethodName := ⟨RX4, "translateByTables", "(II)I"⟩
abbrev wX4_translateByTables : Cond := .code yX4_translateByTables cX4_translateByTables 4 (some .int)
abbrev cX4_translateByEntry : ByteArray := prog_1_method_17_code
def yX4_translateByEntry : MethodName := ⟨RX4, "translateByEntry", "(III)I"⟩
abbrev wX4_translateByEntry : Cond := .code yX4_translateByEntry cX4_translateByEntry 6 (some .int)
abbrev cX4_finish : ByteArray := prog_1_method_18_code
def yX4_finish : MethodName := ⟨RX4, "finish", "(III)I"⟩
abbrev wX4_finish : Cond := .code yX4_finish cX4_finish 4 (some .int)
abbrev cX4_isStale : ByteArray := prog_1_method_19_code
def yX4_isStale : MethodName := ⟨RX4, "isStale", "(LPageRows$Entry;I)Z"⟩
abbrev wX4_isStale : Cond := .code yX4_isStale cX4_isStale 5 (some .boolean)
abbrev cX4_needsChangedMark : ByteArray := prog_1_method_20_code
def yX4_needsChangedMark : MethodName := ⟨RX4, "needsChangedMark", "(LPageRows$Entry;I)Z"⟩
abbrev wX4_needsChangedMark : Cond := .code yX4_needsChangedMark cX4_needsChangedMark 2 (some .boolean)
abbrev cX4_isKind : ByteArray := prog_1_method_21_code
def yX4_isKind : MethodName := ⟨RX4, "isKind", "(I)Z"⟩
abbrev wX4_isKind : Cond := .code yX4_isKind cX4_isKind 1 (some .boolean)
abbrev cX4_isWrite : ByteArray := prog_1_method_22_code
def yX4_isWrite : MethodName := ⟨RX4, "isWrite", "(I)Z"⟩
abbrev wX4_isWrite : Cond := .code yX4_isWrite cX4_isWrite 1 (some .boolean)
abbrev cX4_allows : ByteArray := prog_1_method_23_code
def yX4_allows : MethodName := ⟨RX4, "allows", "(II)Z"⟩
abbrev wX4_allows : Cond := .code yX4_allows cX4_allows 4 (some .boolean)
abbrev cX4_bitsBelow : ByteArray := prog_1_method_24_code
def yX4_bitsBelow : MethodName := ⟨RX4, "bitsBelow", "(I)I"⟩
abbrev wX4_bitsBelow : Cond := .code yX4_bitsBelow cX4_bitsBelow 1 (some .int)
abbrev cX4_frameOf : ByteArray := prog_1_method_25_code
def yX4_frameOf : MethodName := ⟨RX4, "frameOf", "(J)I"⟩
abbrev wX4_frameOf : Cond := .code yX4_frameOf cX4_frameOf 2 (some .int)
abbrev cX4_rightsOf : ByteArray := prog_1_method_26_code
def yX4_rightsOf : MethodName := ⟨RX4, "rightsOf", "(J)I"⟩
abbrev wX4_rightsOf : Cond := .code yX4_rightsOf cX4_rightsOf 2 (some .int)
abbrev cX5_init : ByteArray := prog_7_method_1_code
def yX5_init : MethodName := ⟨RX5, "<init>", "(II)V"⟩
abbrev wX5_init : Cond := .code yX5_init cX5_init 4 none
abbrev cX5_thrown : ByteArray := prog_7_method_2_code
def yX5_thrown : MethodName := ⟨RX5, "thrown", "()I"⟩
abbrev wX5_thrown : Cond := .code yX5_thrown cX5_thrown 1 (some .int)
abbrev cX5_throwing : ByteArray := prog_7_method_3_code
def yX5_throwing : MethodName := ⟨RX5, "throwing", "(ZZ)Z"⟩
abbrev wX5_throwing : Cond := .code yX5_throwing cX5_throwing 3 (some .boolean)
abbrev cX5_isOf : ByteArray := prog_7_method_4_code
def yX5_isOf : MethodName := ⟨RX5, "isOf", "(II)Z"⟩
abbrev wX5_isOf : Cond := .code yX5_isOf cX5_isOf 2 (some .boolean)
abbrev cX5_table : ByteArray := prog_7_method_5_code
def yX5_table : MethodName := ⟨RX5, "table", "(IJ)J"⟩
abbrev wX5_table : Cond := .code yX5_table cX5_table 6 (some .long)
abbrev cX5_word : ByteArray := prog_7_method_6_code
def yX5_word : MethodName := ⟨RX5, "word", "(I)J"⟩
abbrev wX5_word : Cond := .code yX5_word cX5_word 2 (some .long)
abbrev cX5_context : ByteArray := prog_7_method_7_code
def yX5_context : MethodName := ⟨RX5, "context", "(I)I"⟩
abbrev wX5_context : Cond := .code yX5_context cX5_context 3 (some .int)
abbrev cX5_root : ByteArray := prog_7_method_8_code
def yX5_root : MethodName := ⟨RX5, "root", "(II)I"⟩
abbrev wX5_root : Cond := .code yX5_root cX5_root 4 (some .int)
abbrev cX5_host : ByteArray := prog_7_method_9_code
def yX5_host : MethodName := ⟨RX5, "host", "(II)I"⟩
abbrev wX5_host : Cond := .code yX5_host cX5_host 4 (some .int)
abbrev cX5_hosts : ByteArray := prog_7_method_10_code
def yX5_hosts : MethodName := ⟨RX5, "hosts", "(Z)Z"⟩
abbrev wX5_hosts : Cond := .code yX5_hosts cX5_hosts 3 (some .boolean)
abbrev cX5_mapped : ByteArray := prog_7_method_11_code
def yX5_mapped : MethodName := ⟨RX5, "mapped", "(I)I"⟩
abbrev wX5_mapped : Cond := .code yX5_mapped cX5_mapped 2 (some .int)
abbrev cX5_frameOf : ByteArray := prog_7_method_12_code
def yX5_frameOf : MethodName := ⟨RX5, "frameOf", "(J)I"⟩
abbrev wX5_frameOf : Cond := .code yX5_frameOf cX5_frameOf 2 (some .int)
abbrev cX5_rightsOf : ByteArray := prog_7_method_13_code
def yX5_rightsOf : MethodName := ⟨RX5, "rightsOf", "(J)I"⟩
abbrev wX5_rightsOf : Cond := .code yX5_rightsOf cX5_rightsOf 2 (some .int)
abbrev cX5_does : ByteArray := prog_7_method_14_code
def yX5_does : MethodName := ⟨RX5, "does", "(II)Z"⟩
abbrev wX5_does : Cond := .code yX5_does cX5_does 2 (some .boolean)
abbrev cX5_isOutside : ByteArray := prog_7_method_15_code
def yX5_isOutside : MethodName := ⟨RX5, "isOutside", "(I)Z"⟩
abbrev wX5_isOutside : Cond := .code yX5_isOutside cX5_isOutside 2 (some .boolean)
abbrev cX5_fails : ByteArray := prog_7_method_16_code
def yX5_fails : MethodName := ⟨RX5, "fails", "(II)Z"⟩
abbrev wX5_fails : Cond := .code yX5_fails cX5_fails 3 (some .boolean)
abbrev cX5_behind : ByteArray := prog_7_method_17_code
def yX5_behind : MethodName := ⟨RX5, "behind", "(II)I"⟩
abbrev wX5_behind : Cond := .code yX5_behind cX5_behind 2 (some .int)
abbrev cX5_ends : ByteArray := prog_7_method_18_code
def yX5_ends : MethodName := ⟨RX5, "ends", "(III)Z"⟩
abbrev wX5_ends : Cond := .code yX5_ends cX5_ends 5 (some .boolean)
abbrev cX5_goes : ByteArray := prog_7_method_19_code
def yX5_goes : MethodName := ⟨RX5, "goes", "(IIII)Z"⟩
abbrev wX5_goes : Cond := .code yX5_goes cX5_goes 11 (some .boolean)
abbrev cX5_walks : ByteArray := prog_7_method_20_code
def yX5_walks : MethodName := ⟨RX5, "walks", "(II)Z"⟩
abbrev wX5_walks : Cond := .code yX5_walks cX5_walks 5 (some .boolean)
abbrev cX5_fits : ByteArray := prog_7_method_21_code
def yX5_fits : MethodName := ⟨RX5, "fits", "(II)Z"⟩
abbrev wX5_fits : Cond := .code yX5_fits cX5_fits 3 (some .boolean)
abbrev cX5_entryFor : ByteArray := prog_7_method_22_code
def yX5_entryFor : MethodName := ⟨RX5, "entryFor", "(I)I"⟩
abbrev wX5_entryFor : Cond := .code yX5_entryFor cX5_entryFor 4 (some .int)
abbrev cX5_use : ByteArray := prog_7_method_23_code
def yX5_use : MethodName := ⟨RX5, "use", "(I)V"⟩
abbrev wX5_use : Cond := .code yX5_use cX5_use 2 none
abbrev cX5_drop : ByteArray := prog_7_method_24_code
def yX5_drop : MethodName := ⟨RX5, "drop", "(I)V"⟩
abbrev wX5_drop : Cond := .code yX5_drop cX5_drop 2 none
abbrev cX5_keep : ByteArray := prog_7_method_25_code
def yX5_keep : MethodName := ⟨RX5, "keep", "(I)V"⟩
abbrev wX5_keep : Cond := .code yX5_keep cX5_keep 5 none
abbrev cX5_mark : ByteArray := prog_7_method_26_code
def yX5_mark : MethodName := ⟨RX5, "mark", "(I)V"⟩
abbrev wX5_mark : Cond := .code yX5_mark cX5_mark 3 none
abbrev cX5_told : ByteArray := prog_7_method_27_code
def yX5_told : MethodName := ⟨RX5, "told", "(Z)I"⟩
abbrev wX5_told : Cond := .code yX5_told cX5_told 2 (some .int)
abbrev cX5_byEntry : ByteArray := prog_7_method_28_code
def yX5_byEntry : MethodName := ⟨RX5, "byEntry", "(III)Z"⟩
abbrev wX5_byEntry : Cond := .code yX5_byEntry cX5_byEntry 4 (some .boolean)
abbrev cX5_walk : ByteArray := prog_7_method_29_code
def yX5_walk : MethodName := ⟨RX5, "walk", "(II)I"⟩
abbrev wX5_walk : Cond := .code yX5_walk cX5_walk 6 (some .int)
abbrev cX5_to : ByteArray := prog_7_method_30_code
def yX5_to : MethodName := ⟨RX5, "to", "()I"⟩
abbrev wX5_to : Cond := .code yX5_to cX5_to 1 (some .int)
abbrev cX5_level : ByteArray := prog_7_method_31_code
def yX5_level : MethodName := ⟨RX5, "level", "()I"⟩
abbrev wX5_level : Cond := .code yX5_level cX5_level 1 (some .int)
abbrev cX5_plain : ByteArray := prog_7_method_32_code
def yX5_plain : MethodName := ⟨RX5, "plain", "(II)I"⟩
abbrev wX5_plain : Cond := .code yX5_plain cX5_plain 3 (some .int)
abbrev cX5_flush : ByteArray := prog_7_method_33_code
def yX5_flush : MethodName := ⟨RX5, "flush", "(II)I"⟩
abbrev wX5_flush : Cond := .code yX5_flush cX5_flush 5 (some .int)
abbrev cX5_inOrder : ByteArray := prog_7_method_34_code
def yX5_inOrder : MethodName := ⟨RX5, "inOrder", "(I)I"⟩
abbrev wX5_inOrder : Cond := .code yX5_inOrder cX5_inOrder 5 (some .int)
abbrev cX5_kept : ByteArray := prog_7_method_35_code
def yX5_kept : MethodName := ⟨RX5, "kept", "(II)I"⟩
abbrev wX5_kept : Cond := .code yX5_kept cX5_kept 4 (some .int)
abbrev cX5_isStale : ByteArray := prog_7_method_36_code
def yX5_isStale : MethodName := ⟨RX5, "isStale", "(II)Z"⟩
abbrev wX5_isStale : Cond := .code yX5_isStale cX5_isStale 7 (some .boolean)
abbrev cX5_stale : ByteArray := prog_7_method_37_code
def yX5_stale : MethodName := ⟨RX5, "stale", "(I)I"⟩
abbrev wX5_stale : Cond := .code yX5_stale cX5_stale 4 (some .int)
abbrev cX5_count : ByteArray := prog_7_method_38_code
def yX5_count : MethodName := ⟨RX5, "count", "(I)I"⟩
abbrev wX5_count : Cond := .code yX5_count cX5_count 2 (some .int)
abbrev cX0_init : ByteArray := prog_2_method_1_code
def yX0_init : MethodName := ⟨RX0, "<init>", "(I)V"⟩
abbrev wX0_init : Cond := .code yX0_init cX0_init 3 none
abbrev cX0_find : ByteArray := prog_2_method_2_code
def yX0_find : MethodName := ⟨RX0, "find", "(II)I"⟩
abbrev wX0_find : Cond := .code yX0_find cX0_find 4 (some .int)
abbrev cX0_use : ByteArray := prog_2_method_3_code
def yX0_use : MethodName := ⟨RX0, "use", "(I)V"⟩
abbrev wX0_use : Cond := .code yX0_use cX0_use 4 none
abbrev cX0_keep : ByteArray := prog_2_method_4_code
def yX0_keep : MethodName := ⟨RX0, "keep", "(IILPageRows$Path;)V"⟩
abbrev wX0_keep : Cond := .code yX0_keep cX0_keep 6 none
abbrev cX0_rowFor : ByteArray := prog_2_method_5_code
def yX0_rowFor : MethodName := ⟨RX0, "rowFor", "(III)I"⟩
abbrev wX0_rowFor : Cond := .code yX0_rowFor cX0_rowFor 5 (some .int)
abbrev cX0_forget : ByteArray := prog_2_method_6_code
def yX0_forget : MethodName := ⟨RX0, "forget", "(III)I"⟩
abbrev wX0_forget : Cond := .code yX0_forget cX0_forget 7 (some .int)
abbrev cX0_isMeant : ByteArray := prog_2_method_7_code
def yX0_isMeant : MethodName := ⟨RX0, "isMeant", "(LPageRows$Entry;III)Z"⟩
abbrev wX0_isMeant : Cond := .code yX0_isMeant cX0_isMeant 4 (some .boolean)
abbrev cX1_init : ByteArray := prog_3_method_1_code
def yX1_init : MethodName := ⟨RX1, "<init>", "()V"⟩
abbrev wX1_init : Cond := .code yX1_init cX1_init 1 none
abbrev cX1_standsFor : ByteArray := prog_3_method_2_code
def yX1_standsFor : MethodName := ⟨RX1, "standsFor", "(II)Z"⟩
abbrev wX1_standsFor : Cond := .code yX1_standsFor cX1_standsFor 3 (some .boolean)
abbrev cX1_part : ByteArray := prog_3_method_3_code
def yX1_part : MethodName := ⟨RX1, "part", "(I)I"⟩
abbrev wX1_part : Cond := .code yX1_part cX1_part 2 (some .int)
abbrev cX2_init : ByteArray := prog_4_method_1_code
def yX2_init : MethodName := ⟨RX2, "<init>", "()V"⟩
abbrev wX2_init : Cond := .code yX2_init cX2_init 2 none
abbrev cX2_homeOf : ByteArray := prog_4_method_2_code
def yX2_homeOf : MethodName := ⟨RX2, "homeOf", "(I)I"⟩
abbrev wX2_homeOf : Cond := .code yX2_homeOf cX2_homeOf 2 (some .int)
abbrev cX2_reach : ByteArray := prog_4_method_3_code
def yX2_reach : MethodName := ⟨RX2, "reach", "(III)I"⟩
abbrev wX2_reach : Cond := .code yX2_reach cX2_reach 6 (some .int)
abbrev cX3_init : ByteArray := prog_5_method_1_code
def yX3_init : MethodName := ⟨RX3, "<init>", "(LPageRows$Memory;I)V"⟩
abbrev wX3_init : Cond := .code yX3_init cX3_init 3 none
abbrev cX3_follow : ByteArray := prog_5_method_2_code
def yX3_follow : MethodName := ⟨RX3, "follow", "(III)I"⟩
abbrev wX3_follow : Cond := .code yX3_follow cX3_follow 7 (some .int)
abbrev cX3_isOutside : ByteArray := prog_5_method_3_code
def yX3_isOutside : MethodName := ⟨RX3, "isOutside", "(I)Z"⟩
abbrev wX3_isOutside : Cond := .code yX3_isOutside cX3_isOutside 2 (some .boolean)
abbrev cX3_stop : ByteArray := prog_5_method_4_code
def yX3_stop : MethodName := ⟨RX3, "stop", "(II)I"⟩
abbrev wX3_stop : Cond := .code yX3_stop cX3_stop 3 (some .int)
abbrev cX3_read : ByteArray := prog_5_method_5_code
def yX3_read : MethodName := ⟨RX3, "read", "(II)I"⟩
abbrev wX3_read : Cond := .code yX3_read cX3_read 5 (some .int)
abbrev cX3_leafFault : ByteArray := prog_5_method_6_code
def yX3_leafFault : MethodName := ⟨RX3, "leafFault", "(I)I"⟩
abbrev wX3_leafFault : Cond := .code yX3_leafFault cX3_leafFault 3 (some .int)
abbrev cX3_mark : ByteArray := prog_5_method_7_code
def yX3_mark : MethodName := ⟨RX3, "mark", "(Z)V"⟩
abbrev wX3_mark : Cond := .code yX3_mark cX3_mark 3 none
abbrev cL_cell : ByteArray := method_2_code
def yL_cell : MethodName := ⟨RL, "cell", "([II)I"⟩
abbrev wL_cell : Cond := .code yL_cell cL_cell 2 (some .int)
abbrev cL_table : ByteArray := method_3_code
def yL_table : MethodName := ⟨RL, "table", "(LPageRows;IJ[J)I"⟩
abbrev wL_table : Cond := .codeWith yL_table cL_table 6 (some .int) [(0, 10, 13, 13)]
abbrev cL_word : ByteArray := method_4_code
def yL_word : MethodName := ⟨RL, "word", "(LPageRows;I[J)I"⟩
abbrev wL_word : Cond := .codeWith yL_word cL_word 4 (some .int) [(0, 8, 11, 13)]
abbrev cL_context : ByteArray := method_5_code
def yL_context : MethodName := ⟨RL, "context", "(LPageRows;I[J)I"⟩
abbrev wL_context : Cond := .codeWith yL_context cL_context 4 (some .int) [(0, 9, 12, 13)]
abbrev cL_root : ByteArray := method_6_code
def yL_root : MethodName := ⟨RL, "root", "(LPageRows;II[J)I"⟩
abbrev wL_root : Cond := .codeWith yL_root cL_root 5 (some .int) [(0, 10, 13, 13), (0, 10, 17, 27)]
abbrev cL_host : ByteArray := method_7_code
def yL_host : MethodName := ⟨RL, "host", "(LPageRows;II[J)I"⟩
abbrev wL_host : Cond := .codeWith yL_host cL_host 5 (some .int) [(0, 10, 13, 13), (0, 10, 17, 27)]
abbrev cL_walk : ByteArray := method_8_code
def yL_walk : MethodName := ⟨RL, "walk", "(LPageRows;II[J)I"⟩
abbrev wL_walk : Cond := .codeWith yL_walk cL_walk 5 (some .int) [(0, 10, 13, 27)]
abbrev cL_plain : ByteArray := method_9_code
def yL_plain : MethodName := ⟨RL, "plain", "(LPageRows;II[J)I"⟩
abbrev wL_plain : Cond := .codeWith yL_plain cL_plain 5 (some .int) [(0, 10, 13, 27)]
abbrev cL_flush : ByteArray := method_10_code
def yL_flush : MethodName := ⟨RL, "flush", "(LPageRows;II[J)I"⟩
abbrev wL_flush : Cond := .codeWith yL_flush cL_flush 5 (some .int) [(0, 10, 13, 27)]
abbrev cL_kept : ByteArray := method_11_code
def yL_kept : MethodName := ⟨RL, "kept", "(LPageRows;II[J)I"⟩
abbrev wL_kept : Cond := .codeWith yL_kept cL_kept 5 (some .int) [(0, 10, 13, 13)]
abbrev cL_stale : ByteArray := method_12_code
def yL_stale : MethodName := ⟨RL, "stale", "(LPageRows;I[J)I"⟩
abbrev wL_stale : Cond := .codeWith yL_stale cL_stale 4 (some .int) [(0, 9, 12, 27)]
abbrev cL_law : ByteArray := code
def yL_law : MethodName := ⟨RL, "law", "([I)Z"⟩
/-- all good words of the tables: every contract's words are its own code and these -/
def AW : List Cond := lw_tbl.filter goodWord
theorem mem_AW {w : Cond} (i : Nat) (h : lw_tbl[i]? = some w) (g : goodWord w = true) : w ∈ AW := List.mem_filter.mpr ⟨List.mem_of_getElem? h, g⟩
theorem AW_tbl {w : Cond} (h : w ∈ AW) : w ∈ lw_tbl := (List.mem_filter.mp h).1
theorem AW_good {w : Cond} (h : w ∈ AW) : (w.onTables && w.keeps) = true ∨ ∃ ty, w = .arrayClass ty := good_of_word (List.mem_filter.mp h).2
theorem gA {ws : List Cond} (h : ∀ w ∈ ws, w ∈ AW) : GoodIn AW ws := fun w hw => ⟨h w hw, AW_good (h w hw)⟩
theorem gC {c : Cond} (h : c ∈ AW) : GoodIn AW (c :: AW) := gA (fun w hw => by
  rcases List.mem_cons.mp hw with e | e
  · rw [e]; exact h
  · exact e)
theorem gV {own C : String} {i : Nat} {y : MethodName} {c : Cond} (h1 : .methodLink own i y ∈ AW) (h2 : .instanceMethod y ∈ AW) (h3 : .selects C y y ∈ AW) (h4 : .initialized C ∈ AW) (h5 : c ∈ AW) : GoodIn AW (wsV own i C y (c :: AW)) := gA (fun w hw => by
  simp only [wsV, List.cons_append, List.nil_append, List.mem_cons] at hw
  rcases hw with e | e | e | e | e | e
  · rw [e]; exact h1
  · rw [e]; exact h2
  · rw [e]; exact h3
  · rw [e]; exact h4
  · rw [e]; exact h5
  · exact e)
theorem gS {own : String} {i : Nat} {y : MethodName} {c : Cond} (h1 : .methodLink own i y ∈ AW) (h2 : .static y ∈ AW) (h3 : .initialized y.cls ∈ AW) (h5 : c ∈ AW) : GoodIn AW (va_wsS own i y (c :: AW)) := gA (fun w hw => by
  simp only [va_wsS, List.cons_append, List.nil_append, List.mem_cons] at hw
  rcases hw with e | e | e | e | e
  · rw [e]; exact h1
  · rw [e]; exact h2
  · rw [e]; exact h3
  · rw [e]; exact h5
  · exact e)
theorem aw_1 : (.selects RX0 yX0_find yX0_find : Cond) ∈ AW := mem_AW 1 (by decide +kernel) (by decide +kernel)
theorem aw_2 : (.selects RX1 yX1_standsFor yX1_standsFor : Cond) ∈ AW := mem_AW 2 (by decide +kernel) (by decide +kernel)
theorem aw_3 : (.selects RX4 yX4_translateByTables yX4_translateByTables : Cond) ∈ AW := mem_AW 3 (by decide +kernel) (by decide +kernel)
theorem aw_4 : (.selects RX3 yX3_follow yX3_follow : Cond) ∈ AW := mem_AW 4 (by decide +kernel) (by decide +kernel)
theorem aw_5 : (.selects RX3 yX3_isOutside yX3_isOutside : Cond) ∈ AW := mem_AW 5 (by decide +kernel) (by decide +kernel)
theorem aw_6 : (.selects RX3 yX3_stop yX3_stop : Cond) ∈ AW := mem_AW 6 (by decide +kernel) (by decide +kernel)
theorem aw_7 : (.selects RX3 yX3_read yX3_read : Cond) ∈ AW := mem_AW 7 (by decide +kernel) (by decide +kernel)
theorem aw_8 : (.selects RX2 yX2_homeOf yX2_homeOf : Cond) ∈ AW := mem_AW 8 (by decide +kernel) (by decide +kernel)
theorem aw_9 : (.selects RX3 yX3_leafFault yX3_leafFault : Cond) ∈ AW := mem_AW 9 (by decide +kernel) (by decide +kernel)
theorem aw_10 : (.selects RX2 yX2_reach yX2_reach : Cond) ∈ AW := mem_AW 10 (by decide +kernel) (by decide +kernel)
theorem aw_11 : (.selects RX3 yX3_mark yX3_mark : Cond) ∈ AW := mem_AW 11 (by decide +kernel) (by decide +kernel)
theorem aw_12 : (.selects RX0 yX0_keep yX0_keep : Cond) ∈ AW := mem_AW 12 (by decide +kernel) (by decide +kernel)
theorem aw_13 : (.selects RX0 yX0_rowFor yX0_rowFor : Cond) ∈ AW := mem_AW 13 (by decide +kernel) (by decide +kernel)
theorem aw_14 : (.selects RX0 yX0_use yX0_use : Cond) ∈ AW := mem_AW 14 (by decide +kernel) (by decide +kernel)
theorem aw_15 : (.selects RX4 yX4_finish yX4_finish : Cond) ∈ AW := mem_AW 15 (by decide +kernel) (by decide +kernel)
theorem aw_16 : (.selects RX4 yX4_translateByEntry yX4_translateByEntry : Cond) ∈ AW := mem_AW 16 (by decide +kernel) (by decide +kernel)
theorem aw_17 : (.selects RX0 yX0_forget yX0_forget : Cond) ∈ AW := mem_AW 17 (by decide +kernel) (by decide +kernel)
theorem aw_18 : (.selects RX1 yX1_part yX1_part : Cond) ∈ AW := mem_AW 18 (by decide +kernel) (by decide +kernel)
theorem aw_19 : (.selects RX4 yX4_isStale yX4_isStale : Cond) ∈ AW := mem_AW 19 (by decide +kernel) (by decide +kernel)
theorem aw_20 : (.selects RX5 yX5_throwing yX5_throwing : Cond) ∈ AW := mem_AW 20 (by decide +kernel) (by decide +kernel)
theorem aw_21 : (.selects RX5 yX5_isOutside yX5_isOutside : Cond) ∈ AW := mem_AW 21 (by decide +kernel) (by decide +kernel)
theorem aw_22 : (.selects RX5 yX5_entryFor yX5_entryFor : Cond) ∈ AW := mem_AW 22 (by decide +kernel) (by decide +kernel)
theorem aw_23 : (.selects RX5 yX5_fits yX5_fits : Cond) ∈ AW := mem_AW 23 (by decide +kernel) (by decide +kernel)
theorem aw_24 : (.selects RX5 yX5_byEntry yX5_byEntry : Cond) ∈ AW := mem_AW 24 (by decide +kernel) (by decide +kernel)
theorem aw_25 : (.selects RX5 yX5_use yX5_use : Cond) ∈ AW := mem_AW 25 (by decide +kernel) (by decide +kernel)
theorem aw_26 : (.selects RX5 yX5_fails yX5_fails : Cond) ∈ AW := mem_AW 26 (by decide +kernel) (by decide +kernel)
theorem aw_27 : (.selects RX5 yX5_ends yX5_ends : Cond) ∈ AW := mem_AW 27 (by decide +kernel) (by decide +kernel)
theorem aw_28 : (.selects RX5 yX5_mapped yX5_mapped : Cond) ∈ AW := mem_AW 28 (by decide +kernel) (by decide +kernel)
theorem aw_29 : (.selects RX5 yX5_told yX5_told : Cond) ∈ AW := mem_AW 29 (by decide +kernel) (by decide +kernel)
theorem aw_30 : (.selects RX5 yX5_walks yX5_walks : Cond) ∈ AW := mem_AW 30 (by decide +kernel) (by decide +kernel)
theorem aw_31 : (.selects RX5 yX5_goes yX5_goes : Cond) ∈ AW := mem_AW 31 (by decide +kernel) (by decide +kernel)
theorem aw_32 : (.selects RX5 yX5_mark yX5_mark : Cond) ∈ AW := mem_AW 32 (by decide +kernel) (by decide +kernel)
theorem aw_33 : (.selects RX5 yX5_keep yX5_keep : Cond) ∈ AW := mem_AW 33 (by decide +kernel) (by decide +kernel)
theorem aw_34 : (.selects RX5 yX5_drop yX5_drop : Cond) ∈ AW := mem_AW 34 (by decide +kernel) (by decide +kernel)
theorem aw_35 : (.selects RX5 yX5_inOrder yX5_inOrder : Cond) ∈ AW := mem_AW 35 (by decide +kernel) (by decide +kernel)
theorem aw_36 : (.selects RX5 yX5_isStale yX5_isStale : Cond) ∈ AW := mem_AW 36 (by decide +kernel) (by decide +kernel)
theorem aw_37 : (.initialized RL : Cond) ∈ AW := mem_AW 37 (by decide +kernel) (by decide +kernel)
theorem aw_38 : (.initialized RX4 : Cond) ∈ AW := mem_AW 38 (by decide +kernel) (by decide +kernel)
theorem aw_39 : (.initialized RX2 : Cond) ∈ AW := mem_AW 39 (by decide +kernel) (by decide +kernel)
theorem aw_40 : (.initialized RX3 : Cond) ∈ AW := mem_AW 40 (by decide +kernel) (by decide +kernel)
theorem aw_41 : (.initialized RX0 : Cond) ∈ AW := mem_AW 41 (by decide +kernel) (by decide +kernel)
theorem aw_42 : (.initialized RX1 : Cond) ∈ AW := mem_AW 42 (by decide +kernel) (by decide +kernel)
theorem aw_43 : (.initialized RX5 : Cond) ∈ AW := mem_AW 43 (by decide +kernel) (by decide +kernel)
theorem aw_44 : (.initialized "java/lang/Throwable" : Cond) ∈ AW := mem_AW 44 (by decide +kernel) (by decide +kernel)
theorem aw_45 : (.initialized "java/lang/Exception" : Cond) ∈ AW := mem_AW 45 (by decide +kernel) (by decide +kernel)
theorem aw_46 : (.initialized "java/lang/RuntimeException" : Cond) ∈ AW := mem_AW 46 (by decide +kernel) (by decide +kernel)
theorem aw_47 : (.initialized "java/lang/IndexOutOfBoundsException" : Cond) ∈ AW := mem_AW 47 (by decide +kernel) (by decide +kernel)
theorem aw_48 : (.initialized "java/lang/IllegalArgumentException" : Cond) ∈ AW := mem_AW 48 (by decide +kernel) (by decide +kernel)
theorem aw_49 : (.classLink RL 8 RX4 : Cond) ∈ AW := mem_AW 49 (by decide +kernel) (by decide +kernel)
theorem aw_50 : (.instantiable RX4 12 : Cond) ∈ AW := mem_AW 50 (by decide +kernel) (by decide +kernel)
theorem aw_51 : (.methodLink RL 53 yX4_init : Cond) ∈ AW := mem_AW 51 (by decide +kernel) (by decide +kernel)
theorem aw_52 : (.instanceMethod yX4_init : Cond) ∈ AW := mem_AW 52 (by decide +kernel) (by decide +kernel)
theorem aw_53 : (wX4_init : Cond) ∈ AW := mem_AW 53 (by decide +kernel) (by decide +kernel)
theorem aw_54 : (.methodLink RX4 3 objectInit : Cond) ∈ AW := mem_AW 54 (by decide +kernel) (by decide +kernel)
theorem aw_55 : (.instanceMethod objectInit : Cond) ∈ AW := mem_AW 55 (by decide +kernel) (by decide +kernel)
theorem aw_56 : (.code objectInit ⟨#[0xb1]⟩ 1 none : Cond) ∈ AW := mem_AW 56 (by decide +kernel) (by decide +kernel)
theorem aw_57 : (.classLink RX4 13 RX2 : Cond) ∈ AW := mem_AW 57 (by decide +kernel) (by decide +kernel)
theorem aw_58 : (.instantiable RX2 3 : Cond) ∈ AW := mem_AW 58 (by decide +kernel) (by decide +kernel)
theorem aw_60 : (.instanceMethod yX2_init : Cond) ∈ AW := mem_AW 60 (by decide +kernel) (by decide +kernel)
theorem aw_61 : (wX2_init : Cond) ∈ AW := mem_AW 61 (by decide +kernel) (by decide +kernel)
theorem aw_62 : (.methodLink RX2 3 objectInit : Cond) ∈ AW := mem_AW 62 (by decide +kernel) (by decide +kernel)
theorem aw_63 : (.fieldLink RX2 9 "PageRows$Memory" "words" "[J" : Cond) ∈ AW := mem_AW 63 (by decide +kernel) (by decide +kernel)
theorem aw_66 : (.fieldLink RX2 15 "PageRows$Memory" "hosts" "[I" : Cond) ∈ AW := mem_AW 66 (by decide +kernel) (by decide +kernel)
theorem aw_68 : (.fieldLink RX2 19 "PageRows$Memory" "hostsOn" "Z" : Cond) ∈ AW := mem_AW 68 (by decide +kernel) (by decide +kernel)
theorem aw_77 : (.arrayClass .long : Cond) ∈ AW := mem_AW 77 (by decide +kernel) (by decide +kernel)
theorem aw_78 : (.arrayClass .int : Cond) ∈ AW := mem_AW 78 (by decide +kernel) (by decide +kernel)
theorem aw_79 : (.classLink RX4 20 RX3 : Cond) ∈ AW := mem_AW 79 (by decide +kernel) (by decide +kernel)
theorem aw_80 : (.instantiable RX3 8 : Cond) ∈ AW := mem_AW 80 (by decide +kernel) (by decide +kernel)
theorem aw_82 : (.instanceMethod yX3_init : Cond) ∈ AW := mem_AW 82 (by decide +kernel) (by decide +kernel)
theorem aw_83 : (wX3_init : Cond) ∈ AW := mem_AW 83 (by decide +kernel) (by decide +kernel)
theorem aw_84 : (.methodLink RX3 3 objectInit : Cond) ∈ AW := mem_AW 84 (by decide +kernel) (by decide +kernel)
theorem aw_85 : (.fieldLink RX3 9 "PageRows$Path" "memory" "LPageRows$Memory;" : Cond) ∈ AW := mem_AW 85 (by decide +kernel) (by decide +kernel)
theorem aw_86 : (.fieldLink RX3 15 "PageRows$Path" "levels" "I" : Cond) ∈ AW := mem_AW 86 (by decide +kernel) (by decide +kernel)
theorem aw_87 : (.fieldLink RX3 19 "PageRows$Path" "wordsPassed" "[I" : Cond) ∈ AW := mem_AW 87 (by decide +kernel) (by decide +kernel)
theorem aw_88 : (.fieldLink RX3 23 "PageRows$Path" "reads" "I" : Cond) ∈ AW := mem_AW 88 (by decide +kernel) (by decide +kernel)
theorem aw_90 : (.fieldLink RX3 47 "PageRows$Path" "leaf" "J" : Cond) ∈ AW := mem_AW 90 (by decide +kernel) (by decide +kernel)
theorem aw_92 : (.fieldLink RX3 57 "PageRows$Path" "largeness" "I" : Cond) ∈ AW := mem_AW 92 (by decide +kernel) (by decide +kernel)
theorem aw_94 : (.fieldLink RX3 26 "PageRows$Path" "faultLevel" "I" : Cond) ∈ AW := mem_AW 94 (by decide +kernel) (by decide +kernel)
theorem aw_96 : (.fieldLink RX3 29 "PageRows$Path" "reached" "I" : Cond) ∈ AW := mem_AW 96 (by decide +kernel) (by decide +kernel)
theorem aw_115 : (.classLink RX4 29 RX0 : Cond) ∈ AW := mem_AW 115 (by decide +kernel) (by decide +kernel)
theorem aw_116 : (.instantiable RX0 3 : Cond) ∈ AW := mem_AW 116 (by decide +kernel) (by decide +kernel)
theorem aw_118 : (.instanceMethod yX0_init : Cond) ∈ AW := mem_AW 118 (by decide +kernel) (by decide +kernel)
theorem aw_119 : (wX0_init : Cond) ∈ AW := mem_AW 119 (by decide +kernel) (by decide +kernel)
theorem aw_120 : (.methodLink RX0 3 objectInit : Cond) ∈ AW := mem_AW 120 (by decide +kernel) (by decide +kernel)
theorem aw_121 : (.classLink RX0 9 RX1 : Cond) ∈ AW := mem_AW 121 (by decide +kernel) (by decide +kernel)
theorem aw_123 : (.instantiable RX1 6 : Cond) ∈ AW := mem_AW 123 (by decide +kernel) (by decide +kernel)
theorem aw_125 : (.instanceMethod yX1_init : Cond) ∈ AW := mem_AW 125 (by decide +kernel) (by decide +kernel)
theorem aw_126 : (wX1_init : Cond) ∈ AW := mem_AW 126 (by decide +kernel) (by decide +kernel)
theorem aw_127 : (.methodLink RX1 1 objectInit : Cond) ∈ AW := mem_AW 127 (by decide +kernel) (by decide +kernel)
theorem aw_128 : (.fieldLink RX1 7 "PageRows$Entry" "context" "I" : Cond) ∈ AW := mem_AW 128 (by decide +kernel) (by decide +kernel)
theorem aw_131 : (.fieldLink RX1 16 "PageRows$Entry" "largeness" "I" : Cond) ∈ AW := mem_AW 131 (by decide +kernel) (by decide +kernel)
theorem aw_134 : (.fieldLink RX1 13 "PageRows$Entry" "bits" "I" : Cond) ∈ AW := mem_AW 134 (by decide +kernel) (by decide +kernel)
theorem aw_137 : (.fieldLink RX1 25 "PageRows$Entry" "frame" "I" : Cond) ∈ AW := mem_AW 137 (by decide +kernel) (by decide +kernel)
theorem aw_140 : (.fieldLink RX1 28 "PageRows$Entry" "rights" "I" : Cond) ∈ AW := mem_AW 140 (by decide +kernel) (by decide +kernel)
theorem aw_143 : (.fieldLink RX1 31 "PageRows$Entry" "changed" "Z" : Cond) ∈ AW := mem_AW 143 (by decide +kernel) (by decide +kernel)
theorem aw_159 : (.fieldLink RX0 11 "PageRows$Entries" "rows" "[LPageRows$Entry;" : Cond) ∈ AW := mem_AW 159 (by decide +kernel) (by decide +kernel)
theorem aw_161 : (.fieldLink RX0 18 "PageRows$Entries" "size" "I" : Cond) ∈ AW := mem_AW 161 (by decide +kernel) (by decide +kernel)
theorem aw_163 : (.fieldLink RX0 73 "PageRows$Entries" "crowdedOut" "I" : Cond) ∈ AW := mem_AW 163 (by decide +kernel) (by decide +kernel)
theorem aw_172 : (.fieldLink RX4 9 "PageRows" "levels" "I" : Cond) ∈ AW := mem_AW 172 (by decide +kernel) (by decide +kernel)
theorem aw_173 : (.fieldLink RX4 16 "PageRows" "memory" "LPageRows$Memory;" : Cond) ∈ AW := mem_AW 173 (by decide +kernel) (by decide +kernel)
theorem aw_174 : (.fieldLink RX4 25 "PageRows" "path" "LPageRows$Path;" : Cond) ∈ AW := mem_AW 174 (by decide +kernel) (by decide +kernel)
theorem aw_175 : (.fieldLink RX4 34 "PageRows" "entries" "LPageRows$Entries;" : Cond) ∈ AW := mem_AW 175 (by decide +kernel) (by decide +kernel)
theorem aw_176 : (.fieldLink RX4 38 "PageRows" "roots" "[I" : Cond) ∈ AW := mem_AW 176 (by decide +kernel) (by decide +kernel)
theorem aw_177 : (.fieldLink RX4 42 "PageRows" "context" "I" : Cond) ∈ AW := mem_AW 177 (by decide +kernel) (by decide +kernel)
theorem aw_178 : (.fieldLink RX4 45 "PageRows" "latestTo" "I" : Cond) ∈ AW := mem_AW 178 (by decide +kernel) (by decide +kernel)
theorem aw_179 : (.fieldLink RX4 48 "PageRows" "latestLevel" "I" : Cond) ∈ AW := mem_AW 179 (by decide +kernel) (by decide +kernel)
theorem aw_180 : (.fieldLink RX4 132 "PageRows" "wordsRead" "I" : Cond) ∈ AW := mem_AW 180 (by decide +kernel) (by decide +kernel)
theorem aw_181 : (.fieldLink RX4 135 "PageRows" "byEntries" "I" : Cond) ∈ AW := mem_AW 181 (by decide +kernel) (by decide +kernel)
theorem aw_182 : (.fieldLink RX4 138 "PageRows" "byWalks" "I" : Cond) ∈ AW := mem_AW 182 (by decide +kernel) (by decide +kernel)
theorem aw_183 : (.fieldLink RX4 141 "PageRows" "faults" "I" : Cond) ∈ AW := mem_AW 183 (by decide +kernel) (by decide +kernel)
theorem aw_209 : (.methodLink RL 83 yX4_hosts : Cond) ∈ AW := mem_AW 209 (by decide +kernel) (by decide +kernel)
theorem aw_210 : (.instanceMethod yX4_hosts : Cond) ∈ AW := mem_AW 210 (by decide +kernel) (by decide +kernel)
theorem aw_211 : (.selects RX4 yX4_hosts yX4_hosts : Cond) ∈ AW := mem_AW 211 (by decide +kernel) (by decide +kernel)
theorem aw_212 : (wX4_hosts : Cond) ∈ AW := mem_AW 212 (by decide +kernel) (by decide +kernel)
theorem aw_213 : (.methodLink RL 91 yX4_to : Cond) ∈ AW := mem_AW 213 (by decide +kernel) (by decide +kernel)
theorem aw_214 : (.instanceMethod yX4_to : Cond) ∈ AW := mem_AW 214 (by decide +kernel) (by decide +kernel)
theorem aw_215 : (.selects RX4 yX4_to yX4_to : Cond) ∈ AW := mem_AW 215 (by decide +kernel) (by decide +kernel)
theorem aw_216 : (wX4_to : Cond) ∈ AW := mem_AW 216 (by decide +kernel) (by decide +kernel)
theorem aw_217 : (.methodLink RL 95 yX4_level : Cond) ∈ AW := mem_AW 217 (by decide +kernel) (by decide +kernel)
theorem aw_218 : (.instanceMethod yX4_level : Cond) ∈ AW := mem_AW 218 (by decide +kernel) (by decide +kernel)
theorem aw_219 : (.selects RX4 yX4_level yX4_level : Cond) ∈ AW := mem_AW 219 (by decide +kernel) (by decide +kernel)
theorem aw_220 : (wX4_level : Cond) ∈ AW := mem_AW 220 (by decide +kernel) (by decide +kernel)
theorem aw_221 : (.methodLink RL 111 yX4_count : Cond) ∈ AW := mem_AW 221 (by decide +kernel) (by decide +kernel)
theorem aw_222 : (.instanceMethod yX4_count : Cond) ∈ AW := mem_AW 222 (by decide +kernel) (by decide +kernel)
theorem aw_223 : (.selects RX4 yX4_count yX4_count : Cond) ∈ AW := mem_AW 223 (by decide +kernel) (by decide +kernel)
theorem aw_224 : (wX4_count : Cond) ∈ AW := mem_AW 224 (by decide +kernel) (by decide +kernel)
theorem aw_225 : (.methodLink RL 47 yL_cell : Cond) ∈ AW := mem_AW 225 (by decide +kernel) (by decide +kernel)
theorem aw_226 : (.static yL_cell : Cond) ∈ AW := mem_AW 226 (by decide +kernel) (by decide +kernel)
theorem aw_227 : (wL_cell : Cond) ∈ AW := mem_AW 227 (by decide +kernel) (by decide +kernel)
theorem aw_228 : (.methodLink RL 61 yL_table : Cond) ∈ AW := mem_AW 228 (by decide +kernel) (by decide +kernel)
theorem aw_229 : (.static yL_table : Cond) ∈ AW := mem_AW 229 (by decide +kernel) (by decide +kernel)
theorem aw_230 : (wL_table : Cond) ∈ AW := mem_AW 230 (by decide +kernel) (by decide +kernel)
theorem aw_231 : (.classLink RL 13 "java/lang/IndexOutOfBoundsException" : Cond) ∈ AW := mem_AW 231 (by decide +kernel) (by decide +kernel)
theorem aw_232 : (.methodLink RL 7 yX4_table : Cond) ∈ AW := mem_AW 232 (by decide +kernel) (by decide +kernel)
theorem aw_233 : (.instanceMethod yX4_table : Cond) ∈ AW := mem_AW 233 (by decide +kernel) (by decide +kernel)
theorem aw_234 : (.selects RX4 yX4_table yX4_table : Cond) ∈ AW := mem_AW 234 (by decide +kernel) (by decide +kernel)
theorem aw_235 : (wX4_table : Cond) ∈ AW := mem_AW 235 (by decide +kernel) (by decide +kernel)
theorem aw_236 : (.classLink RX4 51 "java/lang/IndexOutOfBoundsException" : Cond) ∈ AW := mem_AW 236 (by decide +kernel) (by decide +kernel)
theorem aw_302 : (.arrayClass .byte : Cond) ∈ AW := mem_AW 302 (by decide +kernel) (by decide +kernel)
theorem aw_303 : (.methodLink RL 69 yL_word : Cond) ∈ AW := mem_AW 303 (by decide +kernel) (by decide +kernel)
theorem aw_304 : (.static yL_word : Cond) ∈ AW := mem_AW 304 (by decide +kernel) (by decide +kernel)
theorem aw_305 : (wL_word : Cond) ∈ AW := mem_AW 305 (by decide +kernel) (by decide +kernel)
theorem aw_306 : (.methodLink RL 15 yX4_word : Cond) ∈ AW := mem_AW 306 (by decide +kernel) (by decide +kernel)
theorem aw_307 : (.instanceMethod yX4_word : Cond) ∈ AW := mem_AW 307 (by decide +kernel) (by decide +kernel)
theorem aw_308 : (.selects RX4 yX4_word yX4_word : Cond) ∈ AW := mem_AW 308 (by decide +kernel) (by decide +kernel)
theorem aw_309 : (wX4_word : Cond) ∈ AW := mem_AW 309 (by decide +kernel) (by decide +kernel)
theorem aw_310 : (.methodLink RL 73 yL_context : Cond) ∈ AW := mem_AW 310 (by decide +kernel) (by decide +kernel)
theorem aw_311 : (.static yL_context : Cond) ∈ AW := mem_AW 311 (by decide +kernel) (by decide +kernel)
theorem aw_312 : (wL_context : Cond) ∈ AW := mem_AW 312 (by decide +kernel) (by decide +kernel)
theorem aw_313 : (.methodLink RL 19 yX4_context : Cond) ∈ AW := mem_AW 313 (by decide +kernel) (by decide +kernel)
theorem aw_314 : (.instanceMethod yX4_context : Cond) ∈ AW := mem_AW 314 (by decide +kernel) (by decide +kernel)
theorem aw_315 : (.selects RX4 yX4_context yX4_context : Cond) ∈ AW := mem_AW 315 (by decide +kernel) (by decide +kernel)
theorem aw_316 : (wX4_context : Cond) ∈ AW := mem_AW 316 (by decide +kernel) (by decide +kernel)
theorem aw_318 : (.methodLink RL 76 yL_root : Cond) ∈ AW := mem_AW 318 (by decide +kernel) (by decide +kernel)
theorem aw_319 : (.static yL_root : Cond) ∈ AW := mem_AW 319 (by decide +kernel) (by decide +kernel)
theorem aw_320 : (wL_root : Cond) ∈ AW := mem_AW 320 (by decide +kernel) (by decide +kernel)
theorem aw_321 : (.classLink RL 27 "java/lang/IllegalArgumentException" : Cond) ∈ AW := mem_AW 321 (by decide +kernel) (by decide +kernel)
theorem aw_322 : (.methodLink RL 23 yX4_root : Cond) ∈ AW := mem_AW 322 (by decide +kernel) (by decide +kernel)
theorem aw_323 : (.instanceMethod yX4_root : Cond) ∈ AW := mem_AW 323 (by decide +kernel) (by decide +kernel)
theorem aw_324 : (.selects RX4 yX4_root yX4_root : Cond) ∈ AW := mem_AW 324 (by decide +kernel) (by decide +kernel)
theorem aw_325 : (wX4_root : Cond) ∈ AW := mem_AW 325 (by decide +kernel) (by decide +kernel)
theorem aw_326 : (.classLink RX4 64 "java/lang/IllegalArgumentException" : Cond) ∈ AW := mem_AW 326 (by decide +kernel) (by decide +kernel)
theorem aw_342 : (.methodLink RL 80 yL_host : Cond) ∈ AW := mem_AW 342 (by decide +kernel) (by decide +kernel)
theorem aw_343 : (.static yL_host : Cond) ∈ AW := mem_AW 343 (by decide +kernel) (by decide +kernel)
theorem aw_344 : (wL_host : Cond) ∈ AW := mem_AW 344 (by decide +kernel) (by decide +kernel)
theorem aw_345 : (.methodLink RL 29 yX4_host : Cond) ∈ AW := mem_AW 345 (by decide +kernel) (by decide +kernel)
theorem aw_346 : (.instanceMethod yX4_host : Cond) ∈ AW := mem_AW 346 (by decide +kernel) (by decide +kernel)
theorem aw_347 : (.selects RX4 yX4_host yX4_host : Cond) ∈ AW := mem_AW 347 (by decide +kernel) (by decide +kernel)
theorem aw_348 : (wX4_host : Cond) ∈ AW := mem_AW 348 (by decide +kernel) (by decide +kernel)
theorem aw_349 : (.constant RX4 69 65535 : Cond) ∈ AW := mem_AW 349 (by decide +kernel) (by decide +kernel)
theorem aw_351 : (.methodLink RL 88 yL_walk : Cond) ∈ AW := mem_AW 351 (by decide +kernel) (by decide +kernel)
theorem aw_352 : (.static yL_walk : Cond) ∈ AW := mem_AW 352 (by decide +kernel) (by decide +kernel)
theorem aw_353 : (wL_walk : Cond) ∈ AW := mem_AW 353 (by decide +kernel) (by decide +kernel)
theorem aw_354 : (.methodLink RL 32 yX4_walk : Cond) ∈ AW := mem_AW 354 (by decide +kernel) (by decide +kernel)
theorem aw_355 : (.instanceMethod yX4_walk : Cond) ∈ AW := mem_AW 355 (by decide +kernel) (by decide +kernel)
theorem aw_356 : (.selects RX4 yX4_walk yX4_walk : Cond) ∈ AW := mem_AW 356 (by decide +kernel) (by decide +kernel)
theorem aw_357 : (wX4_walk : Cond) ∈ AW := mem_AW 357 (by decide +kernel) (by decide +kernel)
theorem aw_358 : (.methodLink RX4 79 yX4_isKind : Cond) ∈ AW := mem_AW 358 (by decide +kernel) (by decide +kernel)
theorem aw_359 : (.static yX4_isKind : Cond) ∈ AW := mem_AW 359 (by decide +kernel) (by decide +kernel)
theorem aw_360 : (wX4_isKind : Cond) ∈ AW := mem_AW 360 (by decide +kernel) (by decide +kernel)
theorem aw_364 : (.instanceMethod yX0_find : Cond) ∈ AW := mem_AW 364 (by decide +kernel) (by decide +kernel)
theorem aw_365 : (wX0_find : Cond) ∈ AW := mem_AW 365 (by decide +kernel) (by decide +kernel)
theorem aw_368 : (.instanceMethod yX1_standsFor : Cond) ∈ AW := mem_AW 368 (by decide +kernel) (by decide +kernel)
theorem aw_369 : (wX1_standsFor : Cond) ∈ AW := mem_AW 369 (by decide +kernel) (by decide +kernel)
theorem aw_371 : (.static yX4_bitsBelow : Cond) ∈ AW := mem_AW 371 (by decide +kernel) (by decide +kernel)
theorem aw_372 : (wX4_bitsBelow : Cond) ∈ AW := mem_AW 372 (by decide +kernel) (by decide +kernel)
theorem aw_373 : (.methodLink RX4 93 yX4_needsChangedMark : Cond) ∈ AW := mem_AW 373 (by decide +kernel) (by decide +kernel)
theorem aw_374 : (.static yX4_needsChangedMark : Cond) ∈ AW := mem_AW 374 (by decide +kernel) (by decide +kernel)
theorem aw_375 : (wX4_needsChangedMark : Cond) ∈ AW := mem_AW 375 (by decide +kernel) (by decide +kernel)
theorem aw_376 : (.methodLink RX4 150 yX4_isWrite : Cond) ∈ AW := mem_AW 376 (by decide +kernel) (by decide +kernel)
theorem aw_377 : (.static yX4_isWrite : Cond) ∈ AW := mem_AW 377 (by decide +kernel) (by decide +kernel)
theorem aw_378 : (wX4_isWrite : Cond) ∈ AW := mem_AW 378 (by decide +kernel) (by decide +kernel)
theorem aw_379 : (.methodLink RX4 173 yX4_allows : Cond) ∈ AW := mem_AW 379 (by decide +kernel) (by decide +kernel)
theorem aw_380 : (.static yX4_allows : Cond) ∈ AW := mem_AW 380 (by decide +kernel) (by decide +kernel)
theorem aw_381 : (wX4_allows : Cond) ∈ AW := mem_AW 381 (by decide +kernel) (by decide +kernel)
theorem aw_382 : (.methodLink RX4 97 yX4_translateByTables : Cond) ∈ AW := mem_AW 382 (by decide +kernel) (by decide +kernel)
theorem aw_384 : (.instanceMethod yX4_translateByTables : Cond) ∈ AW := mem_AW 384 (by decide +kernel) (by decide +kernel)
theorem aw_385 : (wX4_translateByTables : Cond) ∈ AW := mem_AW 385 (by decide +kernel) (by decide +kernel)
theorem aw_388 : (.instanceMethod yX3_follow : Cond) ∈ AW := mem_AW 388 (by decide +kernel) (by decide +kernel)
theorem aw_389 : (wX3_follow : Cond) ∈ AW := mem_AW 389 (by decide +kernel) (by decide +kernel)
theorem aw_390 : (.methodLink RX3 32 yX3_isOutside : Cond) ∈ AW := mem_AW 390 (by decide +kernel) (by decide +kernel)
theorem aw_392 : (.instanceMethod yX3_isOutside : Cond) ∈ AW := mem_AW 392 (by decide +kernel) (by decide +kernel)
theorem aw_393 : (wX3_isOutside : Cond) ∈ AW := mem_AW 393 (by decide +kernel) (by decide +kernel)
theorem aw_395 : (.methodLink RX3 36 yX3_stop : Cond) ∈ AW := mem_AW 395 (by decide +kernel) (by decide +kernel)
theorem aw_397 : (.instanceMethod yX3_stop : Cond) ∈ AW := mem_AW 397 (by decide +kernel) (by decide +kernel)
theorem aw_398 : (wX3_stop : Cond) ∈ AW := mem_AW 398 (by decide +kernel) (by decide +kernel)
theorem aw_399 : (.methodLink RX3 44 yX3_read : Cond) ∈ AW := mem_AW 399 (by decide +kernel) (by decide +kernel)
theorem aw_401 : (.instanceMethod yX3_read : Cond) ∈ AW := mem_AW 401 (by decide +kernel) (by decide +kernel)
theorem aw_402 : (wX3_read : Cond) ∈ AW := mem_AW 402 (by decide +kernel) (by decide +kernel)
theorem aw_405 : (.instanceMethod yX2_homeOf : Cond) ∈ AW := mem_AW 405 (by decide +kernel) (by decide +kernel)
theorem aw_406 : (wX2_homeOf : Cond) ∈ AW := mem_AW 406 (by decide +kernel) (by decide +kernel)
theorem aw_408 : (.static yX4_frameOf : Cond) ∈ AW := mem_AW 408 (by decide +kernel) (by decide +kernel)
theorem aw_409 : (wX4_frameOf : Cond) ∈ AW := mem_AW 409 (by decide +kernel) (by decide +kernel)
theorem aw_410 : (.constant RX4 195 1048575 : Cond) ∈ AW := mem_AW 410 (by decide +kernel) (by decide +kernel)
theorem aw_411 : (.constantLong RX3 55 32 : Cond) ∈ AW := mem_AW 411 (by decide +kernel) (by decide +kernel)
theorem aw_412 : (.methodLink RX3 60 yX3_leafFault : Cond) ∈ AW := mem_AW 412 (by decide +kernel) (by decide +kernel)
theorem aw_414 : (.instanceMethod yX3_leafFault : Cond) ∈ AW := mem_AW 414 (by decide +kernel) (by decide +kernel)
theorem aw_415 : (wX3_leafFault : Cond) ∈ AW := mem_AW 415 (by decide +kernel) (by decide +kernel)
theorem aw_417 : (.static yX4_rightsOf : Cond) ∈ AW := mem_AW 417 (by decide +kernel) (by decide +kernel)
theorem aw_418 : (wX4_rightsOf : Cond) ∈ AW := mem_AW 418 (by decide +kernel) (by decide +kernel)
theorem aw_422 : (.instanceMethod yX2_reach : Cond) ∈ AW := mem_AW 422 (by decide +kernel) (by decide +kernel)
theorem aw_423 : (wX2_reach : Cond) ∈ AW := mem_AW 423 (by decide +kernel) (by decide +kernel)
theorem aw_425 : (.methodLink RX2 27 yX2_homeOf : Cond) ∈ AW := mem_AW 425 (by decide +kernel) (by decide +kernel)
theorem aw_428 : (.instanceMethod yX3_mark : Cond) ∈ AW := mem_AW 428 (by decide +kernel) (by decide +kernel)
theorem aw_429 : (wX3_mark : Cond) ∈ AW := mem_AW 429 (by decide +kernel) (by decide +kernel)
theorem aw_430 : (.constantLong RX3 83 64 : Cond) ∈ AW := mem_AW 430 (by decide +kernel) (by decide +kernel)
theorem aw_431 : (.constantLong RX3 85 128 : Cond) ∈ AW := mem_AW 431 (by decide +kernel) (by decide +kernel)
theorem aw_434 : (.instanceMethod yX0_keep : Cond) ∈ AW := mem_AW 434 (by decide +kernel) (by decide +kernel)
theorem aw_435 : (wX0_keep : Cond) ∈ AW := mem_AW 435 (by decide +kernel) (by decide +kernel)
theorem aw_436 : (.methodLink RX0 31 yX0_rowFor : Cond) ∈ AW := mem_AW 436 (by decide +kernel) (by decide +kernel)
theorem aw_438 : (.instanceMethod yX0_rowFor : Cond) ∈ AW := mem_AW 438 (by decide +kernel) (by decide +kernel)
theorem aw_439 : (wX0_rowFor : Cond) ∈ AW := mem_AW 439 (by decide +kernel) (by decide +kernel)
theorem aw_443 : (.constantLong RX0 63 128 : Cond) ∈ AW := mem_AW 443 (by decide +kernel) (by decide +kernel)
theorem aw_444 : (.methodLink RX0 69 yX0_use : Cond) ∈ AW := mem_AW 444 (by decide +kernel) (by decide +kernel)
theorem aw_446 : (.instanceMethod yX0_use : Cond) ∈ AW := mem_AW 446 (by decide +kernel) (by decide +kernel)
theorem aw_447 : (wX0_use : Cond) ∈ AW := mem_AW 447 (by decide +kernel) (by decide +kernel)
theorem aw_448 : (.methodLink RX4 164 yX4_finish : Cond) ∈ AW := mem_AW 448 (by decide +kernel) (by decide +kernel)
theorem aw_450 : (.instanceMethod yX4_finish : Cond) ∈ AW := mem_AW 450 (by decide +kernel) (by decide +kernel)
theorem aw_451 : (wX4_finish : Cond) ∈ AW := mem_AW 451 (by decide +kernel) (by decide +kernel)
theorem aw_452 : (.methodLink RX4 100 yX4_translateByEntry : Cond) ∈ AW := mem_AW 452 (by decide +kernel) (by decide +kernel)
theorem aw_454 : (.instanceMethod yX4_translateByEntry : Cond) ∈ AW := mem_AW 454 (by decide +kernel) (by decide +kernel)
theorem aw_455 : (wX4_translateByEntry : Cond) ∈ AW := mem_AW 455 (by decide +kernel) (by decide +kernel)
theorem aw_458 : (.methodLink RL 99 yL_plain : Cond) ∈ AW := mem_AW 458 (by decide +kernel) (by decide +kernel)
theorem aw_459 : (.static yL_plain : Cond) ∈ AW := mem_AW 459 (by decide +kernel) (by decide +kernel)
theorem aw_460 : (wL_plain : Cond) ∈ AW := mem_AW 460 (by decide +kernel) (by decide +kernel)
theorem aw_461 : (.methodLink RL 35 yX4_plain : Cond) ∈ AW := mem_AW 461 (by decide +kernel) (by decide +kernel)
theorem aw_462 : (.instanceMethod yX4_plain : Cond) ∈ AW := mem_AW 462 (by decide +kernel) (by decide +kernel)
theorem aw_463 : (.selects RX4 yX4_plain yX4_plain : Cond) ∈ AW := mem_AW 463 (by decide +kernel) (by decide +kernel)
theorem aw_464 : (wX4_plain : Cond) ∈ AW := mem_AW 464 (by decide +kernel) (by decide +kernel)
theorem aw_465 : (.methodLink RL 102 yL_flush : Cond) ∈ AW := mem_AW 465 (by decide +kernel) (by decide +kernel)
theorem aw_466 : (.static yL_flush : Cond) ∈ AW := mem_AW 466 (by decide +kernel) (by decide +kernel)
theorem aw_467 : (wL_flush : Cond) ∈ AW := mem_AW 467 (by decide +kernel) (by decide +kernel)
theorem aw_468 : (.methodLink RL 38 yX4_flush : Cond) ∈ AW := mem_AW 468 (by decide +kernel) (by decide +kernel)
theorem aw_469 : (.instanceMethod yX4_flush : Cond) ∈ AW := mem_AW 469 (by decide +kernel) (by decide +kernel)
theorem aw_470 : (.selects RX4 yX4_flush yX4_flush : Cond) ∈ AW := mem_AW 470 (by decide +kernel) (by decide +kernel)
theorem aw_471 : (wX4_flush : Cond) ∈ AW := mem_AW 471 (by decide +kernel) (by decide +kernel)
theorem aw_475 : (.instanceMethod yX0_forget : Cond) ∈ AW := mem_AW 475 (by decide +kernel) (by decide +kernel)
theorem aw_476 : (wX0_forget : Cond) ∈ AW := mem_AW 476 (by decide +kernel) (by decide +kernel)
theorem aw_477 : (.methodLink RX0 76 yX0_isMeant : Cond) ∈ AW := mem_AW 477 (by decide +kernel) (by decide +kernel)
theorem aw_478 : (.static yX0_isMeant : Cond) ∈ AW := mem_AW 478 (by decide +kernel) (by decide +kernel)
theorem aw_479 : (wX0_isMeant : Cond) ∈ AW := mem_AW 479 (by decide +kernel) (by decide +kernel)
theorem aw_480 : (.methodLink RL 105 yL_kept : Cond) ∈ AW := mem_AW 480 (by decide +kernel) (by decide +kernel)
theorem aw_481 : (.static yL_kept : Cond) ∈ AW := mem_AW 481 (by decide +kernel) (by decide +kernel)
theorem aw_482 : (wL_kept : Cond) ∈ AW := mem_AW 482 (by decide +kernel) (by decide +kernel)
theorem aw_483 : (.methodLink RL 41 yX4_kept : Cond) ∈ AW := mem_AW 483 (by decide +kernel) (by decide +kernel)
theorem aw_484 : (.instanceMethod yX4_kept : Cond) ∈ AW := mem_AW 484 (by decide +kernel) (by decide +kernel)
theorem aw_485 : (.selects RX4 yX4_kept yX4_kept : Cond) ∈ AW := mem_AW 485 (by decide +kernel) (by decide +kernel)
theorem aw_486 : (wX4_kept : Cond) ∈ AW := mem_AW 486 (by decide +kernel) (by decide +kernel)
theorem aw_491 : (.instanceMethod yX1_part : Cond) ∈ AW := mem_AW 491 (by decide +kernel) (by decide +kernel)
theorem aw_492 : (wX1_part : Cond) ∈ AW := mem_AW 492 (by decide +kernel) (by decide +kernel)
theorem aw_493 : (.methodLink RL 108 yL_stale : Cond) ∈ AW := mem_AW 493 (by decide +kernel) (by decide +kernel)
theorem aw_494 : (.static yL_stale : Cond) ∈ AW := mem_AW 494 (by decide +kernel) (by decide +kernel)
theorem aw_495 : (wL_stale : Cond) ∈ AW := mem_AW 495 (by decide +kernel) (by decide +kernel)
theorem aw_496 : (.methodLink RL 44 yX4_stale : Cond) ∈ AW := mem_AW 496 (by decide +kernel) (by decide +kernel)
theorem aw_497 : (.instanceMethod yX4_stale : Cond) ∈ AW := mem_AW 497 (by decide +kernel) (by decide +kernel)
theorem aw_498 : (.selects RX4 yX4_stale yX4_stale : Cond) ∈ AW := mem_AW 498 (by decide +kernel) (by decide +kernel)
theorem aw_499 : (wX4_stale : Cond) ∈ AW := mem_AW 499 (by decide +kernel) (by decide +kernel)
theorem aw_500 : (.methodLink RX4 129 yX4_isStale : Cond) ∈ AW := mem_AW 500 (by decide +kernel) (by decide +kernel)
theorem aw_502 : (.instanceMethod yX4_isStale : Cond) ∈ AW := mem_AW 502 (by decide +kernel) (by decide +kernel)
theorem aw_503 : (wX4_isStale : Cond) ∈ AW := mem_AW 503 (by decide +kernel) (by decide +kernel)
theorem aw_504 : (.methodLink RX4 189 yX4_bitsBelow : Cond) ∈ AW := mem_AW 504 (by decide +kernel) (by decide +kernel)
theorem aw_505 : (.classLink RL 56 RX5 : Cond) ∈ AW := mem_AW 505 (by decide +kernel) (by decide +kernel)
theorem aw_506 : (.instantiable RX5 30 : Cond) ∈ AW := mem_AW 506 (by decide +kernel) (by decide +kernel)
theorem aw_507 : (.methodLink RL 58 yX5_init : Cond) ∈ AW := mem_AW 507 (by decide +kernel) (by decide +kernel)
theorem aw_508 : (.instanceMethod yX5_init : Cond) ∈ AW := mem_AW 508 (by decide +kernel) (by decide +kernel)
theorem aw_509 : (wX5_init : Cond) ∈ AW := mem_AW 509 (by decide +kernel) (by decide +kernel)
theorem aw_510 : (.methodLink RX5 1 objectInit : Cond) ∈ AW := mem_AW 510 (by decide +kernel) (by decide +kernel)
theorem aw_511 : (.fieldLink RX5 58 "PageRowsModel" "thrown" "I" : Cond) ∈ AW := mem_AW 511 (by decide +kernel) (by decide +kernel)
theorem aw_512 : (.fieldLink RX5 52 "PageRowsModel" "levels" "I" : Cond) ∈ AW := mem_AW 512 (by decide +kernel) (by decide +kernel)
theorem aw_513 : (.fieldLink RX5 55 "PageRowsModel" "room" "I" : Cond) ∈ AW := mem_AW 513 (by decide +kernel) (by decide +kernel)
theorem aw_514 : (.fieldLink RX5 7 "PageRowsModel" "memory" "[J" : Cond) ∈ AW := mem_AW 514 (by decide +kernel) (by decide +kernel)
theorem aw_515 : (.fieldLink RX5 69 "PageRowsModel" "context" "I" : Cond) ∈ AW := mem_AW 515 (by decide +kernel) (by decide +kernel)
theorem aw_516 : (.fieldLink RX5 13 "PageRowsModel" "roots" "[I" : Cond) ∈ AW := mem_AW 516 (by decide +kernel) (by decide +kernel)
theorem aw_517 : (.fieldLink RX5 17 "PageRowsModel" "hostOf" "[I" : Cond) ∈ AW := mem_AW 517 (by decide +kernel) (by decide +kernel)
theorem aw_518 : (.fieldLink RX5 73 "PageRowsModel" "isHosted" "Z" : Cond) ∈ AW := mem_AW 518 (by decide +kernel) (by decide +kernel)
theorem aw_519 : (.fieldLink RX5 128 "PageRowsModel" "entries" "I" : Cond) ∈ AW := mem_AW 519 (by decide +kernel) (by decide +kernel)
theorem aw_520 : (.fieldLink RX5 134 "PageRowsModel" "uses" "I" : Cond) ∈ AW := mem_AW 520 (by decide +kernel) (by decide +kernel)
theorem aw_521 : (.fieldLink RX5 20 "PageRowsModel" "entryContext" "[I" : Cond) ∈ AW := mem_AW 521 (by decide +kernel) (by decide +kernel)
theorem aw_522 : (.fieldLink RX5 23 "PageRowsModel" "entryLarge" "[I" : Cond) ∈ AW := mem_AW 522 (by decide +kernel) (by decide +kernel)
theorem aw_523 : (.fieldLink RX5 26 "PageRowsModel" "entryBits" "[I" : Cond) ∈ AW := mem_AW 523 (by decide +kernel) (by decide +kernel)
theorem aw_524 : (.fieldLink RX5 29 "PageRowsModel" "entryFrame" "[I" : Cond) ∈ AW := mem_AW 524 (by decide +kernel) (by decide +kernel)
theorem aw_525 : (.fieldLink RX5 32 "PageRowsModel" "entryRights" "[I" : Cond) ∈ AW := mem_AW 525 (by decide +kernel) (by decide +kernel)
theorem aw_526 : (.fieldLink RX5 35 "PageRowsModel" "entryUse" "[I" : Cond) ∈ AW := mem_AW 526 (by decide +kernel) (by decide +kernel)
theorem aw_527 : (.fieldLink RX5 38 "PageRowsModel" "entryChanged" "[Z" : Cond) ∈ AW := mem_AW 527 (by decide +kernel) (by decide +kernel)
theorem aw_528 : (.fieldLink RX5 42 "PageRowsModel" "to" "I" : Cond) ∈ AW := mem_AW 528 (by decide +kernel) (by decide +kernel)
theorem aw_529 : (.fieldLink RX5 46 "PageRowsModel" "faultLevel" "I" : Cond) ∈ AW := mem_AW 529 (by decide +kernel) (by decide +kernel)
theorem aw_530 : (.fieldLink RX5 173 "PageRowsModel" "read" "I" : Cond) ∈ AW := mem_AW 530 (by decide +kernel) (by decide +kernel)
theorem aw_531 : (.fieldLink RX5 154 "PageRowsModel" "byEntries" "I" : Cond) ∈ AW := mem_AW 531 (by decide +kernel) (by decide +kernel)
theorem aw_532 : (.fieldLink RX5 167 "PageRowsModel" "byWalks" "I" : Cond) ∈ AW := mem_AW 532 (by decide +kernel) (by decide +kernel)
theorem aw_533 : (.fieldLink RX5 151 "PageRowsModel" "faults" "I" : Cond) ∈ AW := mem_AW 533 (by decide +kernel) (by decide +kernel)
theorem aw_534 : (.fieldLink RX5 141 "PageRowsModel" "gone" "I" : Cond) ∈ AW := mem_AW 534 (by decide +kernel) (by decide +kernel)
theorem aw_535 : (.fieldLink RX5 78 "PageRowsModel" "fault" "I" : Cond) ∈ AW := mem_AW 535 (by decide +kernel) (by decide +kernel)
theorem aw_536 : (.fieldLink RX5 81 "PageRowsModel" "atLevel" "I" : Cond) ∈ AW := mem_AW 536 (by decide +kernel) (by decide +kernel)
theorem aw_537 : (.fieldLink RX5 101 "PageRowsModel" "many" "I" : Cond) ∈ AW := mem_AW 537 (by decide +kernel) (by decide +kernel)
theorem aw_538 : (.fieldLink RX5 98 "PageRowsModel" "large" "I" : Cond) ∈ AW := mem_AW 538 (by decide +kernel) (by decide +kernel)
theorem aw_539 : (.fieldLink RX5 95 "PageRowsModel" "came" "I" : Cond) ∈ AW := mem_AW 539 (by decide +kernel) (by decide +kernel)
theorem aw_540 : (.fieldLink RX5 49 "PageRowsModel" "wordAt" "[I" : Cond) ∈ AW := mem_AW 540 (by decide +kernel) (by decide +kernel)
theorem aw_602 : (.arrayClass .boolean : Cond) ∈ AW := mem_AW 602 (by decide +kernel) (by decide +kernel)
theorem aw_603 : (.methodLink RL 65 yX5_thrown : Cond) ∈ AW := mem_AW 603 (by decide +kernel) (by decide +kernel)
theorem aw_604 : (.instanceMethod yX5_thrown : Cond) ∈ AW := mem_AW 604 (by decide +kernel) (by decide +kernel)
theorem aw_605 : (.selects RX5 yX5_thrown yX5_thrown : Cond) ∈ AW := mem_AW 605 (by decide +kernel) (by decide +kernel)
theorem aw_606 : (wX5_thrown : Cond) ∈ AW := mem_AW 606 (by decide +kernel) (by decide +kernel)
theorem aw_607 : (.methodLink RL 64 yX5_table : Cond) ∈ AW := mem_AW 607 (by decide +kernel) (by decide +kernel)
theorem aw_608 : (.instanceMethod yX5_table : Cond) ∈ AW := mem_AW 608 (by decide +kernel) (by decide +kernel)
theorem aw_609 : (.selects RX5 yX5_table yX5_table : Cond) ∈ AW := mem_AW 609 (by decide +kernel) (by decide +kernel)
theorem aw_610 : (wX5_table : Cond) ∈ AW := mem_AW 610 (by decide +kernel) (by decide +kernel)
theorem aw_611 : (.methodLink RX5 61 yX5_isOf : Cond) ∈ AW := mem_AW 611 (by decide +kernel) (by decide +kernel)
theorem aw_612 : (.static yX5_isOf : Cond) ∈ AW := mem_AW 612 (by decide +kernel) (by decide +kernel)
theorem aw_613 : (wX5_isOf : Cond) ∈ AW := mem_AW 613 (by decide +kernel) (by decide +kernel)
theorem aw_614 : (.methodLink RX5 65 yX5_throwing : Cond) ∈ AW := mem_AW 614 (by decide +kernel) (by decide +kernel)
theorem aw_616 : (.instanceMethod yX5_throwing : Cond) ∈ AW := mem_AW 616 (by decide +kernel) (by decide +kernel)
theorem aw_617 : (wX5_throwing : Cond) ∈ AW := mem_AW 617 (by decide +kernel) (by decide +kernel)
theorem aw_618 : (.methodLink RL 72 yX5_word : Cond) ∈ AW := mem_AW 618 (by decide +kernel) (by decide +kernel)
theorem aw_619 : (.instanceMethod yX5_word : Cond) ∈ AW := mem_AW 619 (by decide +kernel) (by decide +kernel)
theorem aw_620 : (.selects RX5 yX5_word yX5_word : Cond) ∈ AW := mem_AW 620 (by decide +kernel) (by decide +kernel)
theorem aw_621 : (wX5_word : Cond) ∈ AW := mem_AW 621 (by decide +kernel) (by decide +kernel)
theorem aw_622 : (.methodLink RL 75 yX5_context : Cond) ∈ AW := mem_AW 622 (by decide +kernel) (by decide +kernel)
theorem aw_623 : (.instanceMethod yX5_context : Cond) ∈ AW := mem_AW 623 (by decide +kernel) (by decide +kernel)
theorem aw_624 : (.selects RX5 yX5_context yX5_context : Cond) ∈ AW := mem_AW 624 (by decide +kernel) (by decide +kernel)
theorem aw_625 : (wX5_context : Cond) ∈ AW := mem_AW 625 (by decide +kernel) (by decide +kernel)
theorem aw_626 : (.methodLink RL 79 yX5_root : Cond) ∈ AW := mem_AW 626 (by decide +kernel) (by decide +kernel)
theorem aw_627 : (.instanceMethod yX5_root : Cond) ∈ AW := mem_AW 627 (by decide +kernel) (by decide +kernel)
theorem aw_628 : (.selects RX5 yX5_root yX5_root : Cond) ∈ AW := mem_AW 628 (by decide +kernel) (by decide +kernel)
theorem aw_629 : (wX5_root : Cond) ∈ AW := mem_AW 629 (by decide +kernel) (by decide +kernel)
theorem aw_630 : (.methodLink RL 82 yX5_host : Cond) ∈ AW := mem_AW 630 (by decide +kernel) (by decide +kernel)
theorem aw_631 : (.instanceMethod yX5_host : Cond) ∈ AW := mem_AW 631 (by decide +kernel) (by decide +kernel)
theorem aw_632 : (.selects RX5 yX5_host yX5_host : Cond) ∈ AW := mem_AW 632 (by decide +kernel) (by decide +kernel)
theorem aw_633 : (wX5_host : Cond) ∈ AW := mem_AW 633 (by decide +kernel) (by decide +kernel)
theorem aw_634 : (.constant RX5 72 65535 : Cond) ∈ AW := mem_AW 634 (by decide +kernel) (by decide +kernel)
theorem aw_635 : (.methodLink RL 87 yX5_hosts : Cond) ∈ AW := mem_AW 635 (by decide +kernel) (by decide +kernel)
theorem aw_636 : (.instanceMethod yX5_hosts : Cond) ∈ AW := mem_AW 636 (by decide +kernel) (by decide +kernel)
theorem aw_637 : (.selects RX5 yX5_hosts yX5_hosts : Cond) ∈ AW := mem_AW 637 (by decide +kernel) (by decide +kernel)
theorem aw_638 : (wX5_hosts : Cond) ∈ AW := mem_AW 638 (by decide +kernel) (by decide +kernel)
theorem aw_639 : (.methodLink RL 90 yX5_walk : Cond) ∈ AW := mem_AW 639 (by decide +kernel) (by decide +kernel)
theorem aw_640 : (.instanceMethod yX5_walk : Cond) ∈ AW := mem_AW 640 (by decide +kernel) (by decide +kernel)
theorem aw_641 : (.selects RX5 yX5_walk yX5_walk : Cond) ∈ AW := mem_AW 641 (by decide +kernel) (by decide +kernel)
theorem aw_642 : (wX5_walk : Cond) ∈ AW := mem_AW 642 (by decide +kernel) (by decide +kernel)
theorem aw_643 : (.methodLink RX5 116 yX5_isOutside : Cond) ∈ AW := mem_AW 643 (by decide +kernel) (by decide +kernel)
theorem aw_645 : (.instanceMethod yX5_isOutside : Cond) ∈ AW := mem_AW 645 (by decide +kernel) (by decide +kernel)
theorem aw_646 : (wX5_isOutside : Cond) ∈ AW := mem_AW 646 (by decide +kernel) (by decide +kernel)
theorem aw_647 : (.methodLink RX5 157 yX5_entryFor : Cond) ∈ AW := mem_AW 647 (by decide +kernel) (by decide +kernel)
theorem aw_649 : (.instanceMethod yX5_entryFor : Cond) ∈ AW := mem_AW 649 (by decide +kernel) (by decide +kernel)
theorem aw_650 : (wX5_entryFor : Cond) ∈ AW := mem_AW 650 (by decide +kernel) (by decide +kernel)
theorem aw_651 : (.methodLink RX5 131 yX5_fits : Cond) ∈ AW := mem_AW 651 (by decide +kernel) (by decide +kernel)
theorem aw_653 : (.instanceMethod yX5_fits : Cond) ∈ AW := mem_AW 653 (by decide +kernel) (by decide +kernel)
theorem aw_654 : (wX5_fits : Cond) ∈ AW := mem_AW 654 (by decide +kernel) (by decide +kernel)
theorem aw_655 : (.methodLink RX5 113 yX5_does : Cond) ∈ AW := mem_AW 655 (by decide +kernel) (by decide +kernel)
theorem aw_656 : (.static yX5_does : Cond) ∈ AW := mem_AW 656 (by decide +kernel) (by decide +kernel)
theorem aw_657 : (wX5_does : Cond) ∈ AW := mem_AW 657 (by decide +kernel) (by decide +kernel)
theorem aw_658 : (.methodLink RX5 160 yX5_byEntry : Cond) ∈ AW := mem_AW 658 (by decide +kernel) (by decide +kernel)
theorem aw_660 : (.instanceMethod yX5_byEntry : Cond) ∈ AW := mem_AW 660 (by decide +kernel) (by decide +kernel)
theorem aw_661 : (wX5_byEntry : Cond) ∈ AW := mem_AW 661 (by decide +kernel) (by decide +kernel)
theorem aw_662 : (.methodLink RX5 146 yX5_use : Cond) ∈ AW := mem_AW 662 (by decide +kernel) (by decide +kernel)
theorem aw_664 : (.instanceMethod yX5_use : Cond) ∈ AW := mem_AW 664 (by decide +kernel) (by decide +kernel)
theorem aw_665 : (wX5_use : Cond) ∈ AW := mem_AW 665 (by decide +kernel) (by decide +kernel)
theorem aw_666 : (.methodLink RX5 92 yX5_fails : Cond) ∈ AW := mem_AW 666 (by decide +kernel) (by decide +kernel)
theorem aw_668 : (.instanceMethod yX5_fails : Cond) ∈ AW := mem_AW 668 (by decide +kernel) (by decide +kernel)
theorem aw_669 : (wX5_fails : Cond) ∈ AW := mem_AW 669 (by decide +kernel) (by decide +kernel)
theorem aw_670 : (.methodLink RX5 124 yX5_ends : Cond) ∈ AW := mem_AW 670 (by decide +kernel) (by decide +kernel)
theorem aw_672 : (.instanceMethod yX5_ends : Cond) ∈ AW := mem_AW 672 (by decide +kernel) (by decide +kernel)
theorem aw_673 : (wX5_ends : Cond) ∈ AW := mem_AW 673 (by decide +kernel) (by decide +kernel)
theorem aw_674 : (.methodLink RX5 84 yX5_behind : Cond) ∈ AW := mem_AW 674 (by decide +kernel) (by decide +kernel)
theorem aw_675 : (.static yX5_behind : Cond) ∈ AW := mem_AW 675 (by decide +kernel) (by decide +kernel)
theorem aw_676 : (wX5_behind : Cond) ∈ AW := mem_AW 676 (by decide +kernel) (by decide +kernel)
theorem aw_677 : (.methodLink RX5 88 yX5_mapped : Cond) ∈ AW := mem_AW 677 (by decide +kernel) (by decide +kernel)
theorem aw_679 : (.instanceMethod yX5_mapped : Cond) ∈ AW := mem_AW 679 (by decide +kernel) (by decide +kernel)
theorem aw_680 : (wX5_mapped : Cond) ∈ AW := mem_AW 680 (by decide +kernel) (by decide +kernel)
theorem aw_681 : (.methodLink RX5 163 yX5_told : Cond) ∈ AW := mem_AW 681 (by decide +kernel) (by decide +kernel)
theorem aw_683 : (.instanceMethod yX5_told : Cond) ∈ AW := mem_AW 683 (by decide +kernel) (by decide +kernel)
theorem aw_684 : (wX5_told : Cond) ∈ AW := mem_AW 684 (by decide +kernel) (by decide +kernel)
theorem aw_685 : (.methodLink RX5 170 yX5_walks : Cond) ∈ AW := mem_AW 685 (by decide +kernel) (by decide +kernel)
theorem aw_687 : (.instanceMethod yX5_walks : Cond) ∈ AW := mem_AW 687 (by decide +kernel) (by decide +kernel)
theorem aw_688 : (wX5_walks : Cond) ∈ AW := mem_AW 688 (by decide +kernel) (by decide +kernel)
theorem aw_689 : (.methodLink RX5 120 yX5_goes : Cond) ∈ AW := mem_AW 689 (by decide +kernel) (by decide +kernel)
theorem aw_691 : (.instanceMethod yX5_goes : Cond) ∈ AW := mem_AW 691 (by decide +kernel) (by decide +kernel)
theorem aw_692 : (wX5_goes : Cond) ∈ AW := mem_AW 692 (by decide +kernel) (by decide +kernel)
theorem aw_693 : (.constantLong RX5 104 32 : Cond) ∈ AW := mem_AW 693 (by decide +kernel) (by decide +kernel)
theorem aw_694 : (.methodLink RX5 106 yX5_frameOf : Cond) ∈ AW := mem_AW 694 (by decide +kernel) (by decide +kernel)
theorem aw_695 : (.static yX5_frameOf : Cond) ∈ AW := mem_AW 695 (by decide +kernel) (by decide +kernel)
theorem aw_696 : (wX5_frameOf : Cond) ∈ AW := mem_AW 696 (by decide +kernel) (by decide +kernel)
theorem aw_697 : (.constant RX5 77 1048575 : Cond) ∈ AW := mem_AW 697 (by decide +kernel) (by decide +kernel)
theorem aw_698 : (.methodLink RX5 110 yX5_rightsOf : Cond) ∈ AW := mem_AW 698 (by decide +kernel) (by decide +kernel)
theorem aw_699 : (.static yX5_rightsOf : Cond) ∈ AW := mem_AW 699 (by decide +kernel) (by decide +kernel)
theorem aw_700 : (wX5_rightsOf : Cond) ∈ AW := mem_AW 700 (by decide +kernel) (by decide +kernel)
theorem aw_701 : (.methodLink RX5 176 yX5_mark : Cond) ∈ AW := mem_AW 701 (by decide +kernel) (by decide +kernel)
theorem aw_703 : (.instanceMethod yX5_mark : Cond) ∈ AW := mem_AW 703 (by decide +kernel) (by decide +kernel)
theorem aw_704 : (wX5_mark : Cond) ∈ AW := mem_AW 704 (by decide +kernel) (by decide +kernel)
theorem aw_705 : (.constantLong RX5 149 64 : Cond) ∈ AW := mem_AW 705 (by decide +kernel) (by decide +kernel)
theorem aw_706 : (.constantLong RX5 144 128 : Cond) ∈ AW := mem_AW 706 (by decide +kernel) (by decide +kernel)
theorem aw_707 : (.methodLink RX5 179 yX5_keep : Cond) ∈ AW := mem_AW 707 (by decide +kernel) (by decide +kernel)
theorem aw_709 : (.instanceMethod yX5_keep : Cond) ∈ AW := mem_AW 709 (by decide +kernel) (by decide +kernel)
theorem aw_710 : (wX5_keep : Cond) ∈ AW := mem_AW 710 (by decide +kernel) (by decide +kernel)
theorem aw_711 : (.methodLink RX5 137 yX5_drop : Cond) ∈ AW := mem_AW 711 (by decide +kernel) (by decide +kernel)
theorem aw_713 : (.instanceMethod yX5_drop : Cond) ∈ AW := mem_AW 713 (by decide +kernel) (by decide +kernel)
theorem aw_714 : (wX5_drop : Cond) ∈ AW := mem_AW 714 (by decide +kernel) (by decide +kernel)
theorem aw_715 : (.methodLink RL 94 yX5_to : Cond) ∈ AW := mem_AW 715 (by decide +kernel) (by decide +kernel)
theorem aw_716 : (.instanceMethod yX5_to : Cond) ∈ AW := mem_AW 716 (by decide +kernel) (by decide +kernel)
theorem aw_717 : (.selects RX5 yX5_to yX5_to : Cond) ∈ AW := mem_AW 717 (by decide +kernel) (by decide +kernel)
theorem aw_718 : (wX5_to : Cond) ∈ AW := mem_AW 718 (by decide +kernel) (by decide +kernel)
theorem aw_719 : (.methodLink RL 98 yX5_level : Cond) ∈ AW := mem_AW 719 (by decide +kernel) (by decide +kernel)
theorem aw_720 : (.instanceMethod yX5_level : Cond) ∈ AW := mem_AW 720 (by decide +kernel) (by decide +kernel)
theorem aw_721 : (.selects RX5 yX5_level yX5_level : Cond) ∈ AW := mem_AW 721 (by decide +kernel) (by decide +kernel)
theorem aw_722 : (wX5_level : Cond) ∈ AW := mem_AW 722 (by decide +kernel) (by decide +kernel)
theorem aw_723 : (.methodLink RL 101 yX5_plain : Cond) ∈ AW := mem_AW 723 (by decide +kernel) (by decide +kernel)
theorem aw_724 : (.instanceMethod yX5_plain : Cond) ∈ AW := mem_AW 724 (by decide +kernel) (by decide +kernel)
theorem aw_725 : (.selects RX5 yX5_plain yX5_plain : Cond) ∈ AW := mem_AW 725 (by decide +kernel) (by decide +kernel)
theorem aw_726 : (wX5_plain : Cond) ∈ AW := mem_AW 726 (by decide +kernel) (by decide +kernel)
theorem aw_727 : (.methodLink RL 104 yX5_flush : Cond) ∈ AW := mem_AW 727 (by decide +kernel) (by decide +kernel)
theorem aw_728 : (.instanceMethod yX5_flush : Cond) ∈ AW := mem_AW 728 (by decide +kernel) (by decide +kernel)
theorem aw_729 : (.selects RX5 yX5_flush yX5_flush : Cond) ∈ AW := mem_AW 729 (by decide +kernel) (by decide +kernel)
theorem aw_730 : (wX5_flush : Cond) ∈ AW := mem_AW 730 (by decide +kernel) (by decide +kernel)
theorem aw_731 : (.methodLink RL 107 yX5_kept : Cond) ∈ AW := mem_AW 731 (by decide +kernel) (by decide +kernel)
theorem aw_732 : (.instanceMethod yX5_kept : Cond) ∈ AW := mem_AW 732 (by decide +kernel) (by decide +kernel)
theorem aw_733 : (.selects RX5 yX5_kept yX5_kept : Cond) ∈ AW := mem_AW 733 (by decide +kernel) (by decide +kernel)
theorem aw_734 : (wX5_kept : Cond) ∈ AW := mem_AW 734 (by decide +kernel) (by decide +kernel)
theorem aw_735 : (.methodLink RX5 182 yX5_inOrder : Cond) ∈ AW := mem_AW 735 (by decide +kernel) (by decide +kernel)
theorem aw_737 : (.instanceMethod yX5_inOrder : Cond) ∈ AW := mem_AW 737 (by decide +kernel) (by decide +kernel)
theorem aw_738 : (wX5_inOrder : Cond) ∈ AW := mem_AW 738 (by decide +kernel) (by decide +kernel)
theorem aw_739 : (.methodLink RL 110 yX5_stale : Cond) ∈ AW := mem_AW 739 (by decide +kernel) (by decide +kernel)
theorem aw_740 : (.instanceMethod yX5_stale : Cond) ∈ AW := mem_AW 740 (by decide +kernel) (by decide +kernel)
theorem aw_741 : (.selects RX5 yX5_stale yX5_stale : Cond) ∈ AW := mem_AW 741 (by decide +kernel) (by decide +kernel)
theorem aw_742 : (wX5_stale : Cond) ∈ AW := mem_AW 742 (by decide +kernel) (by decide +kernel)
theorem aw_743 : (.methodLink RX5 185 yX5_isStale : Cond) ∈ AW := mem_AW 743 (by decide +kernel) (by decide +kernel)
theorem aw_745 : (.instanceMethod yX5_isStale : Cond) ∈ AW := mem_AW 745 (by decide +kernel) (by decide +kernel)
theorem aw_746 : (wX5_isStale : Cond) ∈ AW := mem_AW 746 (by decide +kernel) (by decide +kernel)
theorem aw_747 : (.methodLink RL 114 yX5_count : Cond) ∈ AW := mem_AW 747 (by decide +kernel) (by decide +kernel)
theorem aw_748 : (.instanceMethod yX5_count : Cond) ∈ AW := mem_AW 748 (by decide +kernel) (by decide +kernel)
theorem aw_749 : (.selects RX5 yX5_count yX5_count : Cond) ∈ AW := mem_AW 749 (by decide +kernel) (by decide +kernel)
theorem aw_750 : (wX5_count : Cond) ∈ AW := mem_AW 750 (by decide +kernel) (by decide +kernel)
theorem aw_751 : (.constantLong RL 59 4294967295 : Cond) ∈ AW := mem_AW 751 (by decide +kernel) (by decide +kernel)
theorem inA_X0 : ∀ w ∈ u_ws RX0 TX0 3, w ∈ AW := by
  intro w hw
  have h := (by decide +kernel : (u_ws RX0 TX0 3).all (fun w => decide (w ∈ lw_tbl) && goodWord w) = true)
  have h1 := List.all_eq_true.mp h w hw
  simp only [Bool.and_eq_true, decide_eq_true_eq] at h1
  exact List.mem_filter.mpr h1
theorem inA_X1 : ∀ w ∈ u_ws RX1 TX1 6, w ∈ AW := by
  intro w hw
  have h := (by decide +kernel : (u_ws RX1 TX1 6).all (fun w => decide (w ∈ lw_tbl) && goodWord w) = true)
  have h1 := List.all_eq_true.mp h w hw
  simp only [Bool.and_eq_true, decide_eq_true_eq] at h1
  exact List.mem_filter.mpr h1
theorem inA_X2 : ∀ w ∈ u_ws RX2 TX2 3, w ∈ AW := by
  intro w hw
  have h := (by decide +kernel : (u_ws RX2 TX2 3).all (fun w => decide (w ∈ lw_tbl) && goodWord w) = true)
  have h1 := List.all_eq_true.mp h w hw
  simp only [Bool.and_eq_true, decide_eq_true_eq] at h1
  exact List.mem_filter.mpr h1
theorem inA_X3 : ∀ w ∈ u_ws RX3 TX3 8, w ∈ AW := by
  intro w hw
  have h := (by decide +kernel : (u_ws RX3 TX3 8).all (fun w => decide (w ∈ lw_tbl) && goodWord w) = true)
  have h1 := List.all_eq_true.mp h w hw
  simp only [Bool.and_eq_true, decide_eq_true_eq] at h1
  exact List.mem_filter.mpr h1
theorem inA_X4 : ∀ w ∈ u_ws RX4 TX4 12, w ∈ AW := by
  intro w hw
  have h := (by decide +kernel : (u_ws RX4 TX4 12).all (fun w => decide (w ∈ lw_tbl) && goodWord w) = true)
  have h1 := List.all_eq_true.mp h w hw
  simp only [Bool.and_eq_true, decide_eq_true_eq] at h1
  exact List.mem_filter.mpr h1
theorem inA_X5 : ∀ w ∈ u_ws RX5 TX5 30, w ∈ AW := by
  intro w hw
  have h := (by decide +kernel : (u_ws RX5 TX5 30).all (fun w => decide (w ∈ lw_tbl) && goodWord w) = true)
  have h1 := List.all_eq_true.mp h w hw
  simp only [Bool.and_eq_true, decide_eq_true_eq] at h1
  exact List.mem_filter.mpr h1
def nestF : List (String × Nat × String × String × String × String) := [(RX4, 58, "PageRows$Memory", "words", "[J", "PageRows"), (RX3, 72, "PageRows$Memory", "words", "[J", "PageRows"), (RX4, 72, "PageRows$Memory", "hosts", "[I", "PageRows"), (RX4, 75, "PageRows$Memory", "hostsOn", "Z", "PageRows"), (RX4, 147, "PageRows$Path", "reads", "I", "PageRows"), (RX0, 46, "PageRows$Path", "leaf", "J", "PageRows"), (RX0, 26, "PageRows$Path", "largeness", "I", "PageRows"), (RX4, 161, "PageRows$Path", "faultLevel", "I", "PageRows"), (RX4, 107, "PageRows$Path", "reached", "I", "PageRows"), (RX0, 35, "PageRows$Entry", "context", "I", "PageRows"), (RX4, 128, "PageRows$Entry", "context", "I", "PageRows"), (RX0, 38, "PageRows$Entry", "largeness", "I", "PageRows"), (RX4, 180, "PageRows$Entry", "largeness", "I", "PageRows"), (RX0, 43, "PageRows$Entry", "bits", "I", "PageRows"), (RX4, 186, "PageRows$Entry", "bits", "I", "PageRows"), (RX0, 54, "PageRows$Entry", "frame", "I", "PageRows"), (RX4, 177, "PageRows$Entry", "frame", "I", "PageRows"), (RX0, 60, "PageRows$Entry", "rights", "I", "PageRows"), (RX4, 170, "PageRows$Entry", "rights", "I", "PageRows"), (RX0, 65, "PageRows$Entry", "changed", "Z", "PageRows"), (RX4, 192, "PageRows$Entry", "changed", "Z", "PageRows"), (RX4, 89, "PageRows$Entries", "rows", "[LPageRows$Entry;", "PageRows"), (RX4, 115, "PageRows$Entries", "size", "I", "PageRows"), (RX4, 144, "PageRows$Entries", "crowdedOut", "I", "PageRows")]
def nestM : List (String × Nat × MethodName × String) := [(RX4, 15, yX2_init, "PageRows"), (RX4, 22, yX3_init, "PageRows"), (RX4, 31, yX0_init, "PageRows"), (RX0, 17, yX1_init, "PageRows"), (RX4, 85, yX0_find, "PageRows"), (RX0, 22, yX1_standsFor, "PageRows"), (RX1, 19, yX4_bitsBelow, "PageRows"), (RX4, 104, yX3_follow, "PageRows"), (RX3, 40, yX4_bitsBelow, "PageRows"), (RX3, 69, yX2_homeOf, "PageRows"), (RX3, 51, yX4_frameOf, "PageRows"), (RX3, 76, yX4_rightsOf, "PageRows"), (RX3, 79, yX4_allows, "PageRows"), (RX3, 63, yX2_reach, "PageRows"), (RX2, 23, yX4_bitsBelow, "PageRows"), (RX4, 153, yX3_mark, "PageRows"), (RX4, 157, yX0_keep, "PageRows"), (RX0, 39, yX4_bitsBelow, "PageRows"), (RX0, 50, yX4_frameOf, "PageRows"), (RX0, 57, yX4_rightsOf, "PageRows"), (RX4, 167, yX0_use, "PageRows"), (RX4, 183, yX2_reach, "PageRows"), (RX4, 112, yX0_forget, "PageRows"), (RX4, 122, yX1_part, "PageRows")]
end
section
theorem dX4_init_0 : decode cX4_init 0 = .ok (.aload_n 0, 1) := by decide +kernel
theorem dX4_init_1 : decode cX4_init 1 = .ok (.invokespecial 3, 3) := by decide +kernel
theorem dX4_init_4 : decode cX4_init 4 = .ok (.aload_n 0, 1) := by decide +kernel
theorem dX4_init_5 : decode cX4_init 5 = .ok (.iconst 1, 1) := by decide +kernel
theorem dX4_init_6 : decode cX4_init 6 = .ok (.iload_n 1, 1) := by decide +kernel
theorem dX4_init_7 : decode cX4_init 7 = .ok (.iconst 1, 1) := by decide +kernel
theorem dX4_init_8 : decode cX4_init 8 = .ok (.isub, 1) := by decide +kernel
theorem dX4_init_9 : decode cX4_init 9 = .ok (.iconst 3, 1) := by decide +kernel
theorem dX4_init_10 : decode cX4_init 10 = .ok (.iand, 1) := by decide +kernel
theorem dX4_init_11 : decode cX4_init 11 = .ok (.iadd, 1) := by decide +kernel
theorem dX4_init_12 : decode cX4_init 12 = .ok (.putfield 9, 3) := by decide +kernel
theorem dX4_init_15 : decode cX4_init 15 = .ok (.aload_n 0, 1) := by decide +kernel
theorem dX4_init_16 : decode cX4_init 16 = .ok (.new 13, 3) := by decide +kernel
theorem dX4_init_19 : decode cX4_init 19 = .ok (.dup, 1) := by decide +kernel
theorem dX4_init_20 : decode cX4_init 20 = .ok (.invokespecial 15, 3) := by decide +kernel
theorem dX4_init_23 : decode cX4_init 23 = .ok (.putfield 16, 3) := by decide +kernel
theorem dX4_init_26 : decode cX4_init 26 = .ok (.aload_n 0, 1) := by decide +kernel
theorem dX4_init_27 : decode cX4_init 27 = .ok (.new 20, 3) := by decide +kernel
theorem dX4_init_30 : decode cX4_init 30 = .ok (.dup, 1) := by decide +kernel
theorem dX4_init_31 : decode cX4_init 31 = .ok (.aload_n 0, 1) := by decide +kernel
theorem dX4_init_32 : decode cX4_init 32 = .ok (.getfield 16, 3) := by decide +kernel
theorem dX4_init_35 : decode cX4_init 35 = .ok (.aload_n 0, 1) := by decide +kernel
theorem dX4_init_36 : decode cX4_init 36 = .ok (.getfield 9, 3) := by decide +kernel
theorem dX4_init_39 : decode cX4_init 39 = .ok (.invokespecial 22, 3) := by decide +kernel
theorem dX4_init_42 : decode cX4_init 42 = .ok (.putfield 25, 3) := by decide +kernel
theorem dX4_init_45 : decode cX4_init 45 = .ok (.aload_n 0, 1) := by decide +kernel
theorem dX4_init_46 : decode cX4_init 46 = .ok (.new 29, 3) := by decide +kernel
theorem dX4_init_49 : decode cX4_init 49 = .ok (.dup, 1) := by decide +kernel
theorem dX4_init_50 : decode cX4_init 50 = .ok (.iconst 1, 1) := by decide +kernel
theorem dX4_init_51 : decode cX4_init 51 = .ok (.iload_n 2, 1) := by decide +kernel
theorem dX4_init_52 : decode cX4_init 52 = .ok (.iconst 1, 1) := by decide +kernel
theorem dX4_init_53 : decode cX4_init 53 = .ok (.isub, 1) := by decide +kernel
theorem dX4_init_54 : decode cX4_init 54 = .ok (.bipush 31, 2) := by decide +kernel
theorem dX4_init_56 : decode cX4_init 56 = .ok (.iand, 1) := by decide +kernel
theorem dX4_init_57 : decode cX4_init 57 = .ok (.iadd, 1) := by decide +kernel
theorem dX4_init_58 : decode cX4_init 58 = .ok (.invokespecial 31, 3) := by decide +kernel
theorem dX4_init_61 : decode cX4_init 61 = .ok (.putfield 34, 3) := by decide +kernel
theorem dX4_init_64 : decode cX4_init 64 = .ok (.aload_n 0, 1) := by decide +kernel
theorem dX4_init_65 : decode cX4_init 65 = .ok (.iconst 4, 1) := by decide +kernel
theorem dX4_init_66 : decode cX4_init 66 = .ok (.newarray .int, 2) := by decide +kernel
theorem dX4_init_68 : decode cX4_init 68 = .ok (.putfield 38, 3) := by decide +kernel
theorem dX4_init_71 : decode cX4_init 71 = .ok (.iconst 0, 1) := by decide +kernel
theorem dX4_init_72 : decode cX4_init 72 = .ok (.istore_n 3, 1) := by decide +kernel
theorem dX4_init_73 : decode cX4_init 73 = .ok (.iload_n 3, 1) := by decide +kernel
theorem dX4_init_74 : decode cX4_init 74 = .ok (.iconst 4, 1) := by decide +kernel
theorem dX4_init_75 : decode cX4_init 75 = .ok (.if_icmp .ge 16, 3) := by decide +kernel
theorem dX4_init_78 : decode cX4_init 78 = .ok (.aload_n 0, 1) := by decide +kernel
theorem dX4_init_79 : decode cX4_init 79 = .ok (.getfield 38, 3) := by decide +kernel
theorem dX4_init_82 : decode cX4_init 82 = .ok (.iload_n 3, 1) := by decide +kernel
theorem dX4_init_83 : decode cX4_init 83 = .ok (.iload_n 3, 1) := by decide +kernel
theorem dX4_init_84 : decode cX4_init 84 = .ok (.iastore, 1) := by decide +kernel
theorem dX4_init_85 : decode cX4_init 85 = .ok (.iinc 3 1, 3) := by decide +kernel
theorem dX4_init_88 : decode cX4_init 88 = .ok (.goto (-15), 3) := by decide +kernel
theorem dX4_init_91 : decode cX4_init 91 = .ok (.aload_n 0, 1) := by decide +kernel
theorem dX4_init_92 : decode cX4_init 92 = .ok (.iconst 0, 1) := by decide +kernel
theorem dX4_init_93 : decode cX4_init 93 = .ok (.putfield 42, 3) := by decide +kernel
theorem dX4_init_96 : decode cX4_init 96 = .ok (.aload_n 0, 1) := by decide +kernel
theorem dX4_init_97 : decode cX4_init 97 = .ok (.iconst (-1), 1) := by decide +kernel
theorem dX4_init_98 : decode cX4_init 98 = .ok (.putfield 45, 3) := by decide +kernel
theorem dX4_init_101 : decode cX4_init 101 = .ok (.aload_n 0, 1) := by decide +kernel
theorem dX4_init_102 : decode cX4_init 102 = .ok (.iconst (-1), 1) := by decide +kernel
theorem dX4_init_103 : decode cX4_init 103 = .ok (.putfield 48, 3) := by decide +kernel
theorem dX4_init_106 : decode cX4_init 106 = .ok (.return_, 1) := by decide +kernel
theorem dX4_table_0 : decode cX4_table 0 = .ok (.iload_n 1, 1) := by decide +kernel
theorem dX4_table_1 : decode cX4_table 1 = .ok (.ifCond .lt 10, 3) := by decide +kernel
theorem dX4_table_4 : decode cX4_table 4 = .ok (.iload_n 1, 1) := by decide +kernel
theorem dX4_table_5 : decode cX4_table 5 = .ok (.sipush 4096, 3) := by decide +kernel
theorem dX4_table_8 : decode cX4_table 8 = .ok (.if_icmp .lt 13, 3) := by decide +kernel
theorem dX4_table_11 : decode cX4_table 11 = .ok (.new 51, 3) := by decide +kernel
theorem dX4_table_14 : decode cX4_table 14 = .ok (.dup, 1) := by decide +kernel
theorem dX4_table_15 : decode cX4_table 15 = .ok (.ldc 53, 2) := by decide +kernel
theorem dX4_table_17 : decode cX4_table 17 = .ok (.invokespecial 55, 3) := by decide +kernel
theorem dX4_table_20 : decode cX4_table 20 = .ok (.athrow, 1) := by decide +kernel
theorem dX4_table_21 : decode cX4_table 21 = .ok (.aload_n 0, 1) := by decide +kernel
theorem dX4_table_22 : decode cX4_table 22 = .ok (.getfield 16, 3) := by decide +kernel
theorem dX4_table_25 : decode cX4_table 25 = .ok (.getfield 58, 3) := by decide +kernel
theorem dX4_table_28 : decode cX4_table 28 = .ok (.iload_n 1, 1) := by decide +kernel
theorem dX4_table_29 : decode cX4_table 29 = .ok (.laload, 1) := by decide +kernel
theorem dX4_table_30 : decode cX4_table 30 = .ok (.lstore 4, 2) := by decide +kernel
theorem dX4_table_32 : decode cX4_table 32 = .ok (.aload_n 0, 1) := by decide +kernel
theorem dX4_table_33 : decode cX4_table 33 = .ok (.getfield 16, 3) := by decide +kernel
theorem dX4_table_36 : decode cX4_table 36 = .ok (.getfield 58, 3) := by decide +kernel
theorem dX4_table_39 : decode cX4_table 39 = .ok (.iload_n 1, 1) := by decide +kernel
theorem dX4_table_40 : decode cX4_table 40 = .ok (.lload_n 2, 1) := by decide +kernel
theorem dX4_table_41 : decode cX4_table 41 = .ok (.lastore, 1) := by decide +kernel
theorem dX4_table_42 : decode cX4_table 42 = .ok (.lload 4, 2) := by decide +kernel
theorem dX4_table_44 : decode cX4_table 44 = .ok (.lreturn, 1) := by decide +kernel
theorem dX4_word_0 : decode cX4_word 0 = .ok (.iload_n 1, 1) := by decide +kernel
theorem dX4_word_1 : decode cX4_word 1 = .ok (.ifCond .lt 10, 3) := by decide +kernel
theorem dX4_word_4 : decode cX4_word 4 = .ok (.iload_n 1, 1) := by decide +kernel
theorem dX4_word_5 : decode cX4_word 5 = .ok (.sipush 4096, 3) := by decide +kernel
theorem dX4_word_8 : decode cX4_word 8 = .ok (.if_icmp .lt 13, 3) := by decide +kernel
theorem dX4_word_11 : decode cX4_word 11 = .ok (.new 51, 3) := by decide +kernel
theorem dX4_word_14 : decode cX4_word 14 = .ok (.dup, 1) := by decide +kernel
theorem dX4_word_15 : decode cX4_word 15 = .ok (.ldc 53, 2) := by decide +kernel
theorem dX4_word_17 : decode cX4_word 17 = .ok (.invokespecial 55, 3) := by decide +kernel
theorem dX4_word_20 : decode cX4_word 20 = .ok (.athrow, 1) := by decide +kernel
theorem dX4_word_21 : decode cX4_word 21 = .ok (.aload_n 0, 1) := by decide +kernel
theorem dX4_word_22 : decode cX4_word 22 = .ok (.getfield 16, 3) := by decide +kernel
theorem dX4_word_25 : decode cX4_word 25 = .ok (.getfield 58, 3) := by decide +kernel
theorem dX4_word_28 : decode cX4_word 28 = .ok (.iload_n 1, 1) := by decide +kernel
theorem dX4_word_29 : decode cX4_word 29 = .ok (.laload, 1) := by decide +kernel
theorem dX4_word_30 : decode cX4_word 30 = .ok (.lreturn, 1) := by decide +kernel
theorem dX4_context_0 : decode cX4_context 0 = .ok (.iload_n 1, 1) := by decide +kernel
theorem dX4_context_1 : decode cX4_context 1 = .ok (.ifCond .lt 8, 3) := by decide +kernel
theorem dX4_context_4 : decode cX4_context 4 = .ok (.iload_n 1, 1) := by decide +kernel
theorem dX4_context_5 : decode cX4_context 5 = .ok (.iconst 4, 1) := by decide +kernel
theorem dX4_context_6 : decode cX4_context 6 = .ok (.if_icmp .lt 13, 3) := by decide +kernel
theorem dX4_context_9 : decode cX4_context 9 = .ok (.new 51, 3) := by decide +kernel
theorem dX4_context_12 : decode cX4_context 12 = .ok (.dup, 1) := by decide +kernel
theorem dX4_context_13 : decode cX4_context 13 = .ok (.ldc 62, 2) := by decide +kernel
theorem dX4_context_15 : decode cX4_context 15 = .ok (.invokespecial 55, 3) := by decide +kernel
theorem dX4_context_18 : decode cX4_context 18 = .ok (.athrow, 1) := by decide +kernel
theorem dX4_context_19 : decode cX4_context 19 = .ok (.aload_n 0, 1) := by decide +kernel
theorem dX4_context_20 : decode cX4_context 20 = .ok (.getfield 42, 3) := by decide +kernel
theorem dX4_context_23 : decode cX4_context 23 = .ok (.istore_n 2, 1) := by decide +kernel
theorem dX4_context_24 : decode cX4_context 24 = .ok (.aload_n 0, 1) := by decide +kernel
theorem dX4_context_25 : decode cX4_context 25 = .ok (.iload_n 1, 1) := by decide +kernel
theorem dX4_context_26 : decode cX4_context 26 = .ok (.putfield 42, 3) := by decide +kernel
theorem dX4_context_29 : decode cX4_context 29 = .ok (.iload_n 2, 1) := by decide +kernel
theorem dX4_context_30 : decode cX4_context 30 = .ok (.ireturn, 1) := by decide +kernel
theorem dX4_root_0 : decode cX4_root 0 = .ok (.iload_n 1, 1) := by decide +kernel
theorem dX4_root_1 : decode cX4_root 1 = .ok (.ifCond .lt 8, 3) := by decide +kernel
theorem dX4_root_4 : decode cX4_root 4 = .ok (.iload_n 1, 1) := by decide +kernel
theorem dX4_root_5 : decode cX4_root 5 = .ok (.iconst 4, 1) := by decide +kernel
theorem dX4_root_6 : decode cX4_root 6 = .ok (.if_icmp .lt 13, 3) := by decide +kernel
theorem dX4_root_9 : decode cX4_root 9 = .ok (.new 51, 3) := by decide +kernel
theorem dX4_root_12 : decode cX4_root 12 = .ok (.dup, 1) := by decide +kernel
theorem dX4_root_13 : decode cX4_root 13 = .ok (.ldc 62, 2) := by decide +kernel
theorem dX4_root_15 : decode cX4_root 15 = .ok (.invokespecial 55, 3) := by decide +kernel
theorem dX4_root_18 : decode cX4_root 18 = .ok (.athrow, 1) := by decide +kernel
theorem dX4_root_19 : decode cX4_root 19 = .ok (.iload_n 2, 1) := by decide +kernel
theorem dX4_root_20 : decode cX4_root 20 = .ok (.ifCond .lt 10, 3) := by decide +kernel
theorem dX4_root_23 : decode cX4_root 23 = .ok (.iload_n 2, 1) := by decide +kernel
theorem dX4_root_24 : decode cX4_root 24 = .ok (.sipush 256, 3) := by decide +kernel
theorem dX4_root_27 : decode cX4_root 27 = .ok (.if_icmp .lt 13, 3) := by decide +kernel
theorem dX4_root_30 : decode cX4_root 30 = .ok (.new 64, 3) := by decide +kernel
theorem dX4_root_33 : decode cX4_root 33 = .ok (.dup, 1) := by decide +kernel
theorem dX4_root_34 : decode cX4_root 34 = .ok (.ldc 66, 2) := by decide +kernel
theorem dX4_root_36 : decode cX4_root 36 = .ok (.invokespecial 68, 3) := by decide +kernel
theorem dX4_root_39 : decode cX4_root 39 = .ok (.athrow, 1) := by decide +kernel
theorem dX4_root_40 : decode cX4_root 40 = .ok (.aload_n 0, 1) := by decide +kernel
theorem dX4_root_41 : decode cX4_root 41 = .ok (.getfield 38, 3) := by decide +kernel
theorem dX4_root_44 : decode cX4_root 44 = .ok (.iload_n 1, 1) := by decide +kernel
theorem dX4_root_45 : decode cX4_root 45 = .ok (.iaload, 1) := by decide +kernel
theorem dX4_root_46 : decode cX4_root 46 = .ok (.istore_n 3, 1) := by decide +kernel
theorem dX4_root_47 : decode cX4_root 47 = .ok (.aload_n 0, 1) := by decide +kernel
theorem dX4_root_48 : decode cX4_root 48 = .ok (.getfield 38, 3) := by decide +kernel
theorem dX4_root_51 : decode cX4_root 51 = .ok (.iload_n 1, 1) := by decide +kernel
theorem dX4_root_52 : decode cX4_root 52 = .ok (.iload_n 2, 1) := by decide +kernel
theorem dX4_root_53 : decode cX4_root 53 = .ok (.iastore, 1) := by decide +kernel
theorem dX4_root_54 : decode cX4_root 54 = .ok (.iload_n 3, 1) := by decide +kernel
theorem dX4_root_55 : decode cX4_root 55 = .ok (.ireturn, 1) := by decide +kernel
theorem dX4_host_0 : decode cX4_host 0 = .ok (.iload_n 1, 1) := by decide +kernel
theorem dX4_host_1 : decode cX4_host 1 = .ok (.ifCond .lt 10, 3) := by decide +kernel
theorem dX4_host_4 : decode cX4_host 4 = .ok (.iload_n 1, 1) := by decide +kernel
theorem dX4_host_5 : decode cX4_host 5 = .ok (.sipush 256, 3) := by decide +kernel
theorem dX4_host_8 : decode cX4_host 8 = .ok (.if_icmp .lt 13, 3) := by decide +kernel
theorem dX4_host_11 : decode cX4_host 11 = .ok (.new 51, 3) := by decide +kernel
theorem dX4_host_14 : decode cX4_host 14 = .ok (.dup, 1) := by decide +kernel
theorem dX4_host_15 : decode cX4_host 15 = .ok (.ldc 66, 2) := by decide +kernel
theorem dX4_host_17 : decode cX4_host 17 = .ok (.invokespecial 55, 3) := by decide +kernel
theorem dX4_host_20 : decode cX4_host 20 = .ok (.athrow, 1) := by decide +kernel
theorem dX4_host_21 : decode cX4_host 21 = .ok (.iload_n 2, 1) := by decide +kernel
theorem dX4_host_22 : decode cX4_host 22 = .ok (.iconst (-1), 1) := by decide +kernel
theorem dX4_host_23 : decode cX4_host 23 = .ok (.if_icmp .lt 9, 3) := by decide +kernel
theorem dX4_host_26 : decode cX4_host 26 = .ok (.iload_n 2, 1) := by decide +kernel
theorem dX4_host_27 : decode cX4_host 27 = .ok (.ldc 69, 2) := by decide +kernel
theorem dX4_host_29 : decode cX4_host 29 = .ok (.if_icmp .le 13, 3) := by decide +kernel
theorem dX4_host_32 : decode cX4_host 32 = .ok (.new 64, 3) := by decide +kernel
theorem dX4_host_35 : decode cX4_host 35 = .ok (.dup, 1) := by decide +kernel
theorem dX4_host_36 : decode cX4_host 36 = .ok (.ldc 70, 2) := by decide +kernel
theorem dX4_host_38 : decode cX4_host 38 = .ok (.invokespecial 68, 3) := by decide +kernel
theorem dX4_host_41 : decode cX4_host 41 = .ok (.athrow, 1) := by decide +kernel
theorem dX4_host_42 : decode cX4_host 42 = .ok (.aload_n 0, 1) := by decide +kernel
theorem dX4_host_43 : decode cX4_host 43 = .ok (.getfield 16, 3) := by decide +kernel
theorem dX4_host_46 : decode cX4_host 46 = .ok (.getfield 72, 3) := by decide +kernel
theorem dX4_host_49 : decode cX4_host 49 = .ok (.iload_n 1, 1) := by decide +kernel
theorem dX4_host_50 : decode cX4_host 50 = .ok (.iaload, 1) := by decide +kernel
theorem dX4_host_51 : decode cX4_host 51 = .ok (.istore_n 3, 1) := by decide +kernel
theorem dX4_host_52 : decode cX4_host 52 = .ok (.aload_n 0, 1) := by decide +kernel
theorem dX4_host_53 : decode cX4_host 53 = .ok (.getfield 16, 3) := by decide +kernel
theorem dX4_host_56 : decode cX4_host 56 = .ok (.getfield 72, 3) := by decide +kernel
theorem dX4_host_59 : decode cX4_host 59 = .ok (.iload_n 1, 1) := by decide +kernel
theorem dX4_host_60 : decode cX4_host 60 = .ok (.iload_n 2, 1) := by decide +kernel
theorem dX4_host_61 : decode cX4_host 61 = .ok (.iastore, 1) := by decide +kernel
theorem dX4_host_62 : decode cX4_host 62 = .ok (.iload_n 3, 1) := by decide +kernel
theorem dX4_host_63 : decode cX4_host 63 = .ok (.ireturn, 1) := by decide +kernel
theorem dX4_hosts_0 : decode cX4_hosts 0 = .ok (.aload_n 0, 1) := by decide +kernel
theorem dX4_hosts_1 : decode cX4_hosts 1 = .ok (.getfield 16, 3) := by decide +kernel
theorem dX4_hosts_4 : decode cX4_hosts 4 = .ok (.getfield 75, 3) := by decide +kernel
theorem dX4_hosts_7 : decode cX4_hosts 7 = .ok (.istore_n 2, 1) := by decide +kernel
theorem dX4_hosts_8 : decode cX4_hosts 8 = .ok (.aload_n 0, 1) := by decide +kernel
theorem dX4_hosts_9 : decode cX4_hosts 9 = .ok (.getfield 16, 3) := by decide +kernel
theorem dX4_hosts_12 : decode cX4_hosts 12 = .ok (.iload_n 1, 1) := by decide +kernel
theorem dX4_hosts_13 : decode cX4_hosts 13 = .ok (.putfield 75, 3) := by decide +kernel
theorem dX4_hosts_16 : decode cX4_hosts 16 = .ok (.iload_n 2, 1) := by decide +kernel
theorem dX4_hosts_17 : decode cX4_hosts 17 = .ok (.ireturn, 1) := by decide +kernel
theorem dX4_walk_0 : decode cX4_walk 0 = .ok (.iload_n 2, 1) := by decide +kernel
theorem dX4_walk_1 : decode cX4_walk 1 = .ok (.invokestatic 79, 3) := by decide +kernel
theorem dX4_walk_4 : decode cX4_walk 4 = .ok (.ifCond .ne 13, 3) := by decide +kernel
theorem dX4_walk_7 : decode cX4_walk 7 = .ok (.new 64, 3) := by decide +kernel
theorem dX4_walk_10 : decode cX4_walk 10 = .ok (.dup, 1) := by decide +kernel
theorem dX4_walk_11 : decode cX4_walk 11 = .ok (.ldc 83, 2) := by decide +kernel
theorem dX4_walk_13 : decode cX4_walk 13 = .ok (.invokespecial 68, 3) := by decide +kernel
theorem dX4_walk_16 : decode cX4_walk 16 = .ok (.athrow, 1) := by decide +kernel
theorem dX4_walk_17 : decode cX4_walk 17 = .ok (.aload_n 0, 1) := by decide +kernel
theorem dX4_walk_18 : decode cX4_walk 18 = .ok (.getfield 34, 3) := by decide +kernel
theorem dX4_walk_21 : decode cX4_walk 21 = .ok (.aload_n 0, 1) := by decide +kernel
theorem dX4_walk_22 : decode cX4_walk 22 = .ok (.getfield 42, 3) := by decide +kernel
theorem dX4_walk_25 : decode cX4_walk 25 = .ok (.iload_n 1, 1) := by decide +kernel
theorem dX4_walk_26 : decode cX4_walk 26 = .ok (.invokevirtual 85, 3) := by decide +kernel
theorem dX4_walk_29 : decode cX4_walk 29 = .ok (.istore_n 3, 1) := by decide +kernel
theorem dX4_walk_30 : decode cX4_walk 30 = .ok (.iload_n 3, 1) := by decide +kernel
theorem dX4_walk_31 : decode cX4_walk 31 = .ok (.iconst (-1), 1) := by decide +kernel
theorem dX4_walk_32 : decode cX4_walk 32 = .ok (.if_icmp .eq 19, 3) := by decide +kernel
theorem dX4_walk_35 : decode cX4_walk 35 = .ok (.aload_n 0, 1) := by decide +kernel
theorem dX4_walk_36 : decode cX4_walk 36 = .ok (.getfield 34, 3) := by decide +kernel
theorem dX4_walk_39 : decode cX4_walk 39 = .ok (.getfield 89, 3) := by decide +kernel
theorem dX4_walk_42 : decode cX4_walk 42 = .ok (.iload_n 3, 1) := by decide +kernel
theorem dX4_walk_43 : decode cX4_walk 43 = .ok (.aaload, 1) := by decide +kernel
theorem dX4_walk_44 : decode cX4_walk 44 = .ok (.iload_n 2, 1) := by decide +kernel
theorem dX4_walk_45 : decode cX4_walk 45 = .ok (.invokestatic 93, 3) := by decide +kernel
theorem dX4_walk_48 : decode cX4_walk 48 = .ok (.ifCond .eq 10, 3) := by decide +kernel
theorem dX4_walk_51 : decode cX4_walk 51 = .ok (.aload_n 0, 1) := by decide +kernel
theorem dX4_walk_52 : decode cX4_walk 52 = .ok (.iload_n 1, 1) := by decide +kernel
theorem dX4_walk_53 : decode cX4_walk 53 = .ok (.iload_n 2, 1) := by decide +kernel
theorem dX4_walk_54 : decode cX4_walk 54 = .ok (.invokevirtual 97, 3) := by decide +kernel
theorem dX4_walk_57 : decode cX4_walk 57 = .ok (.ireturn, 1) := by decide +kernel
theorem dX4_walk_58 : decode cX4_walk 58 = .ok (.aload_n 0, 1) := by decide +kernel
theorem dX4_walk_59 : decode cX4_walk 59 = .ok (.iload_n 3, 1) := by decide +kernel
theorem dX4_walk_60 : decode cX4_walk 60 = .ok (.iload_n 1, 1) := by decide +kernel
theorem dX4_walk_61 : decode cX4_walk 61 = .ok (.iload_n 2, 1) := by decide +kernel
theorem dX4_walk_62 : decode cX4_walk 62 = .ok (.invokevirtual 100, 3) := by decide +kernel
theorem dX4_walk_65 : decode cX4_walk 65 = .ok (.ireturn, 1) := by decide +kernel
theorem dX4_to_0 : decode cX4_to 0 = .ok (.aload_n 0, 1) := by decide +kernel
theorem dX4_to_1 : decode cX4_to 1 = .ok (.getfield 45, 3) := by decide +kernel
theorem dX4_to_4 : decode cX4_to 4 = .ok (.ireturn, 1) := by decide +kernel
theorem dX4_level_0 : decode cX4_level 0 = .ok (.aload_n 0, 1) := by decide +kernel
theorem dX4_level_1 : decode cX4_level 1 = .ok (.getfield 48, 3) := by decide +kernel
theorem dX4_level_4 : decode cX4_level 4 = .ok (.ireturn, 1) := by decide +kernel
theorem dX4_plain_0 : decode cX4_plain 0 = .ok (.iload_n 2, 1) := by decide +kernel
theorem dX4_plain_1 : decode cX4_plain 1 = .ok (.invokestatic 79, 3) := by decide +kernel
theorem dX4_plain_4 : decode cX4_plain 4 = .ok (.ifCond .ne 13, 3) := by decide +kernel
theorem dX4_plain_7 : decode cX4_plain 7 = .ok (.new 64, 3) := by decide +kernel
theorem dX4_plain_10 : decode cX4_plain 10 = .ok (.dup, 1) := by decide +kernel
theorem dX4_plain_11 : decode cX4_plain 11 = .ok (.ldc 83, 2) := by decide +kernel
theorem dX4_plain_13 : decode cX4_plain 13 = .ok (.invokespecial 68, 3) := by decide +kernel
theorem dX4_plain_16 : decode cX4_plain 16 = .ok (.athrow, 1) := by decide +kernel
theorem dX4_plain_17 : decode cX4_plain 17 = .ok (.aload_n 0, 1) := by decide +kernel
theorem dX4_plain_18 : decode cX4_plain 18 = .ok (.getfield 25, 3) := by decide +kernel
theorem dX4_plain_21 : decode cX4_plain 21 = .ok (.aload_n 0, 1) := by decide +kernel
theorem dX4_plain_22 : decode cX4_plain 22 = .ok (.getfield 38, 3) := by decide +kernel
theorem dX4_plain_25 : decode cX4_plain 25 = .ok (.aload_n 0, 1) := by decide +kernel
theorem dX4_plain_26 : decode cX4_plain 26 = .ok (.getfield 42, 3) := by decide +kernel
theorem dX4_plain_29 : decode cX4_plain 29 = .ok (.iaload, 1) := by decide +kernel
theorem dX4_plain_30 : decode cX4_plain 30 = .ok (.iload_n 1, 1) := by decide +kernel
theorem dX4_plain_31 : decode cX4_plain 31 = .ok (.iload_n 2, 1) := by decide +kernel
theorem dX4_plain_32 : decode cX4_plain 32 = .ok (.invokevirtual 104, 3) := by decide +kernel
theorem dX4_plain_35 : decode cX4_plain 35 = .ok (.istore_n 3, 1) := by decide +kernel
theorem dX4_plain_36 : decode cX4_plain 36 = .ok (.iload_n 3, 1) := by decide +kernel
theorem dX4_plain_37 : decode cX4_plain 37 = .ok (.ifCond .ne 13, 3) := by decide +kernel
theorem dX4_plain_40 : decode cX4_plain 40 = .ok (.aload_n 0, 1) := by decide +kernel
theorem dX4_plain_41 : decode cX4_plain 41 = .ok (.getfield 25, 3) := by decide +kernel
theorem dX4_plain_44 : decode cX4_plain 44 = .ok (.getfield 107, 3) := by decide +kernel
theorem dX4_plain_47 : decode cX4_plain 47 = .ok (.goto 5, 3) := by decide +kernel
theorem dX4_plain_50 : decode cX4_plain 50 = .ok (.iload_n 3, 1) := by decide +kernel
theorem dX4_plain_51 : decode cX4_plain 51 = .ok (.ineg, 1) := by decide +kernel
theorem dX4_plain_52 : decode cX4_plain 52 = .ok (.ireturn, 1) := by decide +kernel
theorem dX4_flush_0 : decode cX4_flush 0 = .ok (.iload_n 1, 1) := by decide +kernel
theorem dX4_flush_1 : decode cX4_flush 1 = .ok (.ifCond .lt 8, 3) := by decide +kernel
theorem dX4_flush_4 : decode cX4_flush 4 = .ok (.iload_n 1, 1) := by decide +kernel
theorem dX4_flush_5 : decode cX4_flush 5 = .ok (.iconst 2, 1) := by decide +kernel
theorem dX4_flush_6 : decode cX4_flush 6 = .ok (.if_icmp .le 13, 3) := by decide +kernel
theorem dX4_flush_9 : decode cX4_flush 9 = .ok (.new 64, 3) := by decide +kernel
theorem dX4_flush_12 : decode cX4_flush 12 = .ok (.dup, 1) := by decide +kernel
theorem dX4_flush_13 : decode cX4_flush 13 = .ok (.ldc 110, 2) := by decide +kernel
theorem dX4_flush_15 : decode cX4_flush 15 = .ok (.invokespecial 68, 3) := by decide +kernel
theorem dX4_flush_18 : decode cX4_flush 18 = .ok (.athrow, 1) := by decide +kernel
theorem dX4_flush_19 : decode cX4_flush 19 = .ok (.aload_n 0, 1) := by decide +kernel
theorem dX4_flush_20 : decode cX4_flush 20 = .ok (.getfield 34, 3) := by decide +kernel
theorem dX4_flush_23 : decode cX4_flush 23 = .ok (.iload_n 1, 1) := by decide +kernel
theorem dX4_flush_24 : decode cX4_flush 24 = .ok (.aload_n 0, 1) := by decide +kernel
theorem dX4_flush_25 : decode cX4_flush 25 = .ok (.getfield 42, 3) := by decide +kernel
theorem dX4_flush_28 : decode cX4_flush 28 = .ok (.iload_n 2, 1) := by decide +kernel
theorem dX4_flush_29 : decode cX4_flush 29 = .ok (.invokevirtual 112, 3) := by decide +kernel
theorem dX4_flush_32 : decode cX4_flush 32 = .ok (.ireturn, 1) := by decide +kernel
theorem dX4_kept_0 : decode cX4_kept 0 = .ok (.iload_n 1, 1) := by decide +kernel
theorem dX4_kept_1 : decode cX4_kept 1 = .ok (.ifCond .lt 14, 3) := by decide +kernel
theorem dX4_kept_4 : decode cX4_kept 4 = .ok (.iload_n 1, 1) := by decide +kernel
theorem dX4_kept_5 : decode cX4_kept 5 = .ok (.aload_n 0, 1) := by decide +kernel
theorem dX4_kept_6 : decode cX4_kept 6 = .ok (.getfield 34, 3) := by decide +kernel
theorem dX4_kept_9 : decode cX4_kept 9 = .ok (.getfield 115, 3) := by decide +kernel
theorem dX4_kept_12 : decode cX4_kept 12 = .ok (.if_icmp .lt 13, 3) := by decide +kernel
theorem dX4_kept_15 : decode cX4_kept 15 = .ok (.new 51, 3) := by decide +kernel
theorem dX4_kept_18 : decode cX4_kept 18 = .ok (.dup, 1) := by decide +kernel
theorem dX4_kept_19 : decode cX4_kept 19 = .ok (.ldc 118, 2) := by decide +kernel
theorem dX4_kept_21 : decode cX4_kept 21 = .ok (.invokespecial 55, 3) := by decide +kernel
theorem dX4_kept_24 : decode cX4_kept 24 = .ok (.athrow, 1) := by decide +kernel
theorem dX4_kept_25 : decode cX4_kept 25 = .ok (.iload_n 2, 1) := by decide +kernel
theorem dX4_kept_26 : decode cX4_kept 26 = .ok (.ifCond .lt 9, 3) := by decide +kernel
theorem dX4_kept_29 : decode cX4_kept 29 = .ok (.iload_n 2, 1) := by decide +kernel
theorem dX4_kept_30 : decode cX4_kept 30 = .ok (.bipush 6, 2) := by decide +kernel
theorem dX4_kept_32 : decode cX4_kept 32 = .ok (.if_icmp .lt 13, 3) := by decide +kernel
theorem dX4_kept_35 : decode cX4_kept 35 = .ok (.new 51, 3) := by decide +kernel
theorem dX4_kept_38 : decode cX4_kept 38 = .ok (.dup, 1) := by decide +kernel
theorem dX4_kept_39 : decode cX4_kept 39 = .ok (.ldc 120, 2) := by decide +kernel
theorem dX4_kept_41 : decode cX4_kept 41 = .ok (.invokespecial 55, 3) := by decide +kernel
theorem dX4_kept_44 : decode cX4_kept 44 = .ok (.athrow, 1) := by decide +kernel
theorem dX4_kept_45 : decode cX4_kept 45 = .ok (.aload_n 0, 1) := by decide +kernel
theorem dX4_kept_46 : decode cX4_kept 46 = .ok (.getfield 34, 3) := by decide +kernel
theorem dX4_kept_49 : decode cX4_kept 49 = .ok (.getfield 89, 3) := by decide +kernel
theorem dX4_kept_52 : decode cX4_kept 52 = .ok (.iload_n 1, 1) := by decide +kernel
theorem dX4_kept_53 : decode cX4_kept 53 = .ok (.aaload, 1) := by decide +kernel
theorem dX4_kept_54 : decode cX4_kept 54 = .ok (.iload_n 2, 1) := by decide +kernel
theorem dX4_kept_55 : decode cX4_kept 55 = .ok (.invokevirtual 122, 3) := by decide +kernel
theorem dX4_kept_58 : decode cX4_kept 58 = .ok (.ireturn, 1) := by decide +kernel
theorem dX4_stale_0 : decode cX4_stale 0 = .ok (.iload_n 1, 1) := by decide +kernel
theorem dX4_stale_1 : decode cX4_stale 1 = .ok (.invokestatic 79, 3) := by decide +kernel
theorem dX4_stale_4 : decode cX4_stale 4 = .ok (.ifCond .ne 13, 3) := by decide +kernel
theorem dX4_stale_7 : decode cX4_stale 7 = .ok (.new 64, 3) := by decide +kernel
theorem dX4_stale_10 : decode cX4_stale 10 = .ok (.dup, 1) := by decide +kernel
theorem dX4_stale_11 : decode cX4_stale 11 = .ok (.ldc 83, 2) := by decide +kernel
theorem dX4_stale_13 : decode cX4_stale 13 = .ok (.invokespecial 68, 3) := by decide +kernel
theorem dX4_stale_16 : decode cX4_stale 16 = .ok (.athrow, 1) := by decide +kernel
theorem dX4_stale_17 : decode cX4_stale 17 = .ok (.iconst 0, 1) := by decide +kernel
theorem dX4_stale_18 : decode cX4_stale 18 = .ok (.istore_n 2, 1) := by decide +kernel
theorem dX4_stale_19 : decode cX4_stale 19 = .ok (.iconst 0, 1) := by decide +kernel
theorem dX4_stale_20 : decode cX4_stale 20 = .ok (.istore_n 3, 1) := by decide +kernel
theorem dX4_stale_21 : decode cX4_stale 21 = .ok (.iload_n 3, 1) := by decide +kernel
theorem dX4_stale_22 : decode cX4_stale 22 = .ok (.aload_n 0, 1) := by decide +kernel
theorem dX4_stale_23 : decode cX4_stale 23 = .ok (.getfield 34, 3) := by decide +kernel
theorem dX4_stale_26 : decode cX4_stale 26 = .ok (.getfield 115, 3) := by decide +kernel
theorem dX4_stale_29 : decode cX4_stale 29 = .ok (.if_icmp .ge 45, 3) := by decide +kernel
theorem dX4_stale_32 : decode cX4_stale 32 = .ok (.aload_n 0, 1) := by decide +kernel
theorem dX4_stale_33 : decode cX4_stale 33 = .ok (.getfield 34, 3) := by decide +kernel
theorem dX4_stale_36 : decode cX4_stale 36 = .ok (.getfield 89, 3) := by decide +kernel
theorem dX4_stale_39 : decode cX4_stale 39 = .ok (.iload_n 3, 1) := by decide +kernel
theorem dX4_stale_40 : decode cX4_stale 40 = .ok (.aaload, 1) := by decide +kernel
theorem dX4_stale_41 : decode cX4_stale 41 = .ok (.astore 4, 2) := by decide +kernel
theorem dX4_stale_43 : decode cX4_stale 43 = .ok (.aload 4, 2) := by decide +kernel
theorem dX4_stale_45 : decode cX4_stale 45 = .ok (.getfield 128, 3) := by decide +kernel
theorem dX4_stale_48 : decode cX4_stale 48 = .ok (.aload_n 0, 1) := by decide +kernel
theorem dX4_stale_49 : decode cX4_stale 49 = .ok (.getfield 42, 3) := by decide +kernel
theorem dX4_stale_52 : decode cX4_stale 52 = .ok (.if_icmp .ne 16, 3) := by decide +kernel
theorem dX4_stale_55 : decode cX4_stale 55 = .ok (.aload_n 0, 1) := by decide +kernel
theorem dX4_stale_56 : decode cX4_stale 56 = .ok (.aload 4, 2) := by decide +kernel
theorem dX4_stale_58 : decode cX4_stale 58 = .ok (.iload_n 1, 1) := by decide +kernel
theorem dX4_stale_59 : decode cX4_stale 59 = .ok (.invokevirtual 129, 3) := by decide +kernel
theorem dX4_stale_62 : decode cX4_stale 62 = .ok (.ifCond .eq 6, 3) := by decide +kernel
theorem dX4_stale_65 : decode cX4_stale 65 = .ok (.iinc 2 1, 3) := by decide +kernel
theorem dX4_stale_68 : decode cX4_stale 68 = .ok (.iinc 3 1, 3) := by decide +kernel
theorem dX4_stale_71 : decode cX4_stale 71 = .ok (.goto (-50), 3) := by decide +kernel
theorem dX4_stale_74 : decode cX4_stale 74 = .ok (.iload_n 2, 1) := by decide +kernel
theorem dX4_stale_75 : decode cX4_stale 75 = .ok (.ireturn, 1) := by decide +kernel
theorem dX4_count_0 : decode cX4_count 0 = .ok (.iload_n 1, 1) := by decide +kernel
theorem dX4_count_1 : decode cX4_count 1 = .ok (.tableswitch 106 0 8 #[51, 56, 65, 73, 78, 83, 88, 93, 98], 51) := by decide +kernel
theorem dX4_count_52 : decode cX4_count 52 = .ok (.aload_n 0, 1) := by decide +kernel
theorem dX4_count_53 : decode cX4_count 53 = .ok (.getfield 9, 3) := by decide +kernel
theorem dX4_count_56 : decode cX4_count 56 = .ok (.ireturn, 1) := by decide +kernel
theorem dX4_count_57 : decode cX4_count 57 = .ok (.aload_n 0, 1) := by decide +kernel
theorem dX4_count_58 : decode cX4_count 58 = .ok (.getfield 34, 3) := by decide +kernel
theorem dX4_count_61 : decode cX4_count 61 = .ok (.getfield 89, 3) := by decide +kernel
theorem dX4_count_64 : decode cX4_count 64 = .ok (.arraylength, 1) := by decide +kernel
theorem dX4_count_65 : decode cX4_count 65 = .ok (.ireturn, 1) := by decide +kernel
theorem dX4_count_66 : decode cX4_count 66 = .ok (.aload_n 0, 1) := by decide +kernel
theorem dX4_count_67 : decode cX4_count 67 = .ok (.getfield 34, 3) := by decide +kernel
theorem dX4_count_70 : decode cX4_count 70 = .ok (.getfield 115, 3) := by decide +kernel
theorem dX4_count_73 : decode cX4_count 73 = .ok (.ireturn, 1) := by decide +kernel
theorem dX4_count_74 : decode cX4_count 74 = .ok (.aload_n 0, 1) := by decide +kernel
theorem dX4_count_75 : decode cX4_count 75 = .ok (.getfield 42, 3) := by decide +kernel
theorem dX4_count_78 : decode cX4_count 78 = .ok (.ireturn, 1) := by decide +kernel
theorem dX4_count_79 : decode cX4_count 79 = .ok (.aload_n 0, 1) := by decide +kernel
theorem dX4_count_80 : decode cX4_count 80 = .ok (.getfield 132, 3) := by decide +kernel
theorem dX4_count_83 : decode cX4_count 83 = .ok (.ireturn, 1) := by decide +kernel
theorem dX4_count_84 : decode cX4_count 84 = .ok (.aload_n 0, 1) := by decide +kernel
theorem dX4_count_85 : decode cX4_count 85 = .ok (.getfield 135, 3) := by decide +kernel
theorem dX4_count_88 : decode cX4_count 88 = .ok (.ireturn, 1) := by decide +kernel
theorem dX4_count_89 : decode cX4_count 89 = .ok (.aload_n 0, 1) := by decide +kernel
theorem dX4_count_90 : decode cX4_count 90 = .ok (.getfield 138, 3) := by decide +kernel
theorem dX4_count_93 : decode cX4_count 93 = .ok (.ireturn, 1) := by decide +kernel
theorem dX4_count_94 : decode cX4_count 94 = .ok (.aload_n 0, 1) := by decide +kernel
theorem dX4_count_95 : decode cX4_count 95 = .ok (.getfield 141, 3) := by decide +kernel
theorem dX4_count_98 : decode cX4_count 98 = .ok (.ireturn, 1) := by decide +kernel
theorem dX4_count_99 : decode cX4_count 99 = .ok (.aload_n 0, 1) := by decide +kernel
theorem dX4_count_100 : decode cX4_count 100 = .ok (.getfield 34, 3) := by decide +kernel
theorem dX4_count_103 : decode cX4_count 103 = .ok (.getfield 144, 3) := by decide +kernel
theorem dX4_count_106 : decode cX4_count 106 = .ok (.ireturn, 1) := by decide +kernel
theorem dX4_count_107 : decode cX4_count 107 = .ok (.iconst (-1), 1) := by decide +kernel
theorem dX4_count_108 : decode cX4_count 108 = .ok (.ireturn, 1) := by decide +kernel
theorem dX4_translateByTables_0 : decode cX4_translateByTables 0 = .ok (.aload_n 0, 1) := by decide +kernel
theorem dX4_translateByTables_1 : decode cX4_translateByTables 1 = .ok (.dup, 1) := by decide +kernel
theorem dX4_translateByTables_2 : decode cX4_translateByTables 2 = .ok (.getfield 138, 3) := by decide +kernel
theorem dX4_translateByTables_5 : decode cX4_translateByTables 5 = .ok (.iconst 1, 1) := by decide +kernel
theorem dX4_translateByTables_6 : decode cX4_translateByTables 6 = .ok (.iadd, 1) := by decide +kernel
theorem dX4_translateByTables_7 : decode cX4_translateByTables 7 = .ok (.putfield 138, 3) := by decide +kernel
theorem dX4_translateByTables_10 : decode cX4_translateByTables 10 = .ok (.aload_n 0, 1) := by decide +kernel
theorem dX4_translateByTables_11 : decode cX4_translateByTables 11 = .ok (.getfield 25, 3) := by decide +kernel
theorem dX4_translateByTables_14 : decode cX4_translateByTables 14 = .ok (.aload_n 0, 1) := by decide +kernel
theorem dX4_translateByTables_15 : decode cX4_translateByTables 15 = .ok (.getfield 38, 3) := by decide +kernel
theorem dX4_translateByTables_18 : decode cX4_translateByTables 18 = .ok (.aload_n 0, 1) := by decide +kernel
theorem dX4_translateByTables_19 : decode cX4_translateByTables 19 = .ok (.getfield 42, 3) := by decide +kernel
theorem dX4_translateByTables_22 : decode cX4_translateByTables 22 = .ok (.iaload, 1) := by decide +kernel
theorem dX4_translateByTables_23 : decode cX4_translateByTables 23 = .ok (.iload_n 1, 1) := by decide +kernel
theorem dX4_translateByTables_24 : decode cX4_translateByTables 24 = .ok (.iload_n 2, 1) := by decide +kernel
theorem dX4_translateByTables_25 : decode cX4_translateByTables 25 = .ok (.invokevirtual 104, 3) := by decide +kernel
theorem dX4_translateByTables_28 : decode cX4_translateByTables 28 = .ok (.istore_n 3, 1) := by decide +kernel
theorem dX4_translateByTables_29 : decode cX4_translateByTables 29 = .ok (.aload_n 0, 1) := by decide +kernel
theorem dX4_translateByTables_30 : decode cX4_translateByTables 30 = .ok (.dup, 1) := by decide +kernel
theorem dX4_translateByTables_31 : decode cX4_translateByTables 31 = .ok (.getfield 132, 3) := by decide +kernel
theorem dX4_translateByTables_34 : decode cX4_translateByTables 34 = .ok (.aload_n 0, 1) := by decide +kernel
theorem dX4_translateByTables_35 : decode cX4_translateByTables 35 = .ok (.getfield 25, 3) := by decide +kernel
theorem dX4_translateByTables_38 : decode cX4_translateByTables 38 = .ok (.getfield 147, 3) := by decide +kernel
theorem dX4_translateByTables_41 : decode cX4_translateByTables 41 = .ok (.iadd, 1) := by decide +kernel
theorem dX4_translateByTables_42 : decode cX4_translateByTables 42 = .ok (.putfield 132, 3) := by decide +kernel
theorem dX4_translateByTables_45 : decode cX4_translateByTables 45 = .ok (.iload_n 3, 1) := by decide +kernel
theorem dX4_translateByTables_46 : decode cX4_translateByTables 46 = .ok (.ifCond .ne 30, 3) := by decide +kernel
theorem dX4_translateByTables_49 : decode cX4_translateByTables 49 = .ok (.aload_n 0, 1) := by decide +kernel
theorem dX4_translateByTables_50 : decode cX4_translateByTables 50 = .ok (.getfield 25, 3) := by decide +kernel
theorem dX4_translateByTables_53 : decode cX4_translateByTables 53 = .ok (.iload_n 2, 1) := by decide +kernel
theorem dX4_translateByTables_54 : decode cX4_translateByTables 54 = .ok (.invokestatic 150, 3) := by decide +kernel
theorem dX4_translateByTables_57 : decode cX4_translateByTables 57 = .ok (.invokevirtual 153, 3) := by decide +kernel
theorem dX4_translateByTables_60 : decode cX4_translateByTables 60 = .ok (.aload_n 0, 1) := by decide +kernel
theorem dX4_translateByTables_61 : decode cX4_translateByTables 61 = .ok (.getfield 34, 3) := by decide +kernel
theorem dX4_translateByTables_64 : decode cX4_translateByTables 64 = .ok (.aload_n 0, 1) := by decide +kernel
theorem dX4_translateByTables_65 : decode cX4_translateByTables 65 = .ok (.getfield 42, 3) := by decide +kernel
theorem dX4_translateByTables_68 : decode cX4_translateByTables 68 = .ok (.iload_n 1, 1) := by decide +kernel
theorem dX4_translateByTables_69 : decode cX4_translateByTables 69 = .ok (.aload_n 0, 1) := by decide +kernel
theorem dX4_translateByTables_70 : decode cX4_translateByTables 70 = .ok (.getfield 25, 3) := by decide +kernel
theorem dX4_translateByTables_73 : decode cX4_translateByTables 73 = .ok (.invokevirtual 157, 3) := by decide +kernel
theorem dX4_translateByTables_76 : decode cX4_translateByTables 76 = .ok (.aload_n 0, 1) := by decide +kernel
theorem dX4_translateByTables_77 : decode cX4_translateByTables 77 = .ok (.iload_n 3, 1) := by decide +kernel
theorem dX4_translateByTables_78 : decode cX4_translateByTables 78 = .ok (.aload_n 0, 1) := by decide +kernel
theorem dX4_translateByTables_79 : decode cX4_translateByTables 79 = .ok (.getfield 25, 3) := by decide +kernel
theorem dX4_translateByTables_82 : decode cX4_translateByTables 82 = .ok (.getfield 161, 3) := by decide +kernel
theorem dX4_translateByTables_85 : decode cX4_translateByTables 85 = .ok (.aload_n 0, 1) := by decide +kernel
theorem dX4_translateByTables_86 : decode cX4_translateByTables 86 = .ok (.getfield 25, 3) := by decide +kernel
theorem dX4_translateByTables_89 : decode cX4_translateByTables 89 = .ok (.getfield 107, 3) := by decide +kernel
theorem dX4_translateByTables_92 : decode cX4_translateByTables 92 = .ok (.invokevirtual 164, 3) := by decide +kernel
theorem dX4_translateByTables_95 : decode cX4_translateByTables 95 = .ok (.ireturn, 1) := by decide +kernel
theorem dX4_translateByEntry_0 : decode cX4_translateByEntry 0 = .ok (.aload_n 0, 1) := by decide +kernel
theorem dX4_translateByEntry_1 : decode cX4_translateByEntry 1 = .ok (.dup, 1) := by decide +kernel
theorem dX4_translateByEntry_2 : decode cX4_translateByEntry 2 = .ok (.getfield 135, 3) := by decide +kernel
theorem dX4_translateByEntry_5 : decode cX4_translateByEntry 5 = .ok (.iconst 1, 1) := by decide +kernel
theorem dX4_translateByEntry_6 : decode cX4_translateByEntry 6 = .ok (.iadd, 1) := by decide +kernel
theorem dX4_translateByEntry_7 : decode cX4_translateByEntry 7 = .ok (.putfield 135, 3) := by decide +kernel
theorem dX4_translateByEntry_10 : decode cX4_translateByEntry 10 = .ok (.aload_n 0, 1) := by decide +kernel
theorem dX4_translateByEntry_11 : decode cX4_translateByEntry 11 = .ok (.getfield 34, 3) := by decide +kernel
theorem dX4_translateByEntry_14 : decode cX4_translateByEntry 14 = .ok (.getfield 89, 3) := by decide +kernel
theorem dX4_translateByEntry_17 : decode cX4_translateByEntry 17 = .ok (.iload_n 1, 1) := by decide +kernel
theorem dX4_translateByEntry_18 : decode cX4_translateByEntry 18 = .ok (.aaload, 1) := by decide +kernel
theorem dX4_translateByEntry_19 : decode cX4_translateByEntry 19 = .ok (.astore 4, 2) := by decide +kernel
theorem dX4_translateByEntry_21 : decode cX4_translateByEntry 21 = .ok (.aload_n 0, 1) := by decide +kernel
theorem dX4_translateByEntry_22 : decode cX4_translateByEntry 22 = .ok (.getfield 34, 3) := by decide +kernel
theorem dX4_translateByEntry_25 : decode cX4_translateByEntry 25 = .ok (.iload_n 1, 1) := by decide +kernel
theorem dX4_translateByEntry_26 : decode cX4_translateByEntry 26 = .ok (.invokevirtual 167, 3) := by decide +kernel
theorem dX4_translateByEntry_29 : decode cX4_translateByEntry 29 = .ok (.aload 4, 2) := by decide +kernel
theorem dX4_translateByEntry_31 : decode cX4_translateByEntry 31 = .ok (.getfield 170, 3) := by decide +kernel
theorem dX4_translateByEntry_34 : decode cX4_translateByEntry 34 = .ok (.iload_n 3, 1) := by decide +kernel
theorem dX4_translateByEntry_35 : decode cX4_translateByEntry 35 = .ok (.invokestatic 173, 3) := by decide +kernel
theorem dX4_translateByEntry_38 : decode cX4_translateByEntry 38 = .ok (.ifCond .ne 14, 3) := by decide +kernel
theorem dX4_translateByEntry_41 : decode cX4_translateByEntry 41 = .ok (.aload_n 0, 1) := by decide +kernel
theorem dX4_translateByEntry_42 : decode cX4_translateByEntry 42 = .ok (.iconst 3, 1) := by decide +kernel
theorem dX4_translateByEntry_43 : decode cX4_translateByEntry 43 = .ok (.aload_n 0, 1) := by decide +kernel
theorem dX4_translateByEntry_44 : decode cX4_translateByEntry 44 = .ok (.getfield 9, 3) := by decide +kernel
theorem dX4_translateByEntry_47 : decode cX4_translateByEntry 47 = .ok (.iconst (-1), 1) := by decide +kernel
theorem dX4_translateByEntry_48 : decode cX4_translateByEntry 48 = .ok (.invokevirtual 164, 3) := by decide +kernel
theorem dX4_translateByEntry_51 : decode cX4_translateByEntry 51 = .ok (.ireturn, 1) := by decide +kernel
theorem dX4_translateByEntry_52 : decode cX4_translateByEntry 52 = .ok (.aload_n 0, 1) := by decide +kernel
theorem dX4_translateByEntry_53 : decode cX4_translateByEntry 53 = .ok (.getfield 16, 3) := by decide +kernel
theorem dX4_translateByEntry_56 : decode cX4_translateByEntry 56 = .ok (.aload 4, 2) := by decide +kernel
theorem dX4_translateByEntry_58 : decode cX4_translateByEntry 58 = .ok (.getfield 177, 3) := by decide +kernel
theorem dX4_translateByEntry_61 : decode cX4_translateByEntry 61 = .ok (.aload 4, 2) := by decide +kernel
theorem dX4_translateByEntry_63 : decode cX4_translateByEntry 63 = .ok (.getfield 180, 3) := by decide +kernel
theorem dX4_translateByEntry_66 : decode cX4_translateByEntry 66 = .ok (.iload_n 2, 1) := by decide +kernel
theorem dX4_translateByEntry_67 : decode cX4_translateByEntry 67 = .ok (.invokevirtual 183, 3) := by decide +kernel
theorem dX4_translateByEntry_70 : decode cX4_translateByEntry 70 = .ok (.istore 5, 2) := by decide +kernel
theorem dX4_translateByEntry_72 : decode cX4_translateByEntry 72 = .ok (.aload_n 0, 1) := by decide +kernel
theorem dX4_translateByEntry_73 : decode cX4_translateByEntry 73 = .ok (.iload 5, 2) := by decide +kernel
theorem dX4_translateByEntry_75 : decode cX4_translateByEntry 75 = .ok (.iconst (-1), 1) := by decide +kernel
theorem dX4_translateByEntry_76 : decode cX4_translateByEntry 76 = .ok (.if_icmp .ne 8, 3) := by decide +kernel
theorem dX4_translateByEntry_79 : decode cX4_translateByEntry 79 = .ok (.bipush 6, 2) := by decide +kernel
theorem dX4_translateByEntry_81 : decode cX4_translateByEntry 81 = .ok (.goto 4, 3) := by decide +kernel
theorem dX4_translateByEntry_84 : decode cX4_translateByEntry 84 = .ok (.iconst 0, 1) := by decide +kernel
theorem dX4_translateByEntry_85 : decode cX4_translateByEntry 85 = .ok (.aload_n 0, 1) := by decide +kernel
theorem dX4_translateByEntry_86 : decode cX4_translateByEntry 86 = .ok (.getfield 9, 3) := by decide +kernel
theorem dX4_translateByEntry_89 : decode cX4_translateByEntry 89 = .ok (.iload 5, 2) := by decide +kernel
theorem dX4_translateByEntry_91 : decode cX4_translateByEntry 91 = .ok (.invokevirtual 164, 3) := by decide +kernel
theorem dX4_translateByEntry_94 : decode cX4_translateByEntry 94 = .ok (.ireturn, 1) := by decide +kernel
theorem dX4_finish_0 : decode cX4_finish 0 = .ok (.aload_n 0, 1) := by decide +kernel
theorem dX4_finish_1 : decode cX4_finish 1 = .ok (.iload_n 3, 1) := by decide +kernel
theorem dX4_finish_2 : decode cX4_finish 2 = .ok (.putfield 45, 3) := by decide +kernel
theorem dX4_finish_5 : decode cX4_finish 5 = .ok (.aload_n 0, 1) := by decide +kernel
theorem dX4_finish_6 : decode cX4_finish 6 = .ok (.iload_n 1, 1) := by decide +kernel
theorem dX4_finish_7 : decode cX4_finish 7 = .ok (.ifCond .ne 7, 3) := by decide +kernel
theorem dX4_finish_10 : decode cX4_finish 10 = .ok (.iconst (-1), 1) := by decide +kernel
theorem dX4_finish_11 : decode cX4_finish 11 = .ok (.goto 4, 3) := by decide +kernel
theorem dX4_finish_14 : decode cX4_finish 14 = .ok (.iload_n 2, 1) := by decide +kernel
theorem dX4_finish_15 : decode cX4_finish 15 = .ok (.putfield 48, 3) := by decide +kernel
theorem dX4_finish_18 : decode cX4_finish 18 = .ok (.iload_n 1, 1) := by decide +kernel
theorem dX4_finish_19 : decode cX4_finish 19 = .ok (.ifCond .eq 13, 3) := by decide +kernel
theorem dX4_finish_22 : decode cX4_finish 22 = .ok (.aload_n 0, 1) := by decide +kernel
theorem dX4_finish_23 : decode cX4_finish 23 = .ok (.dup, 1) := by decide +kernel
theorem dX4_finish_24 : decode cX4_finish 24 = .ok (.getfield 141, 3) := by decide +kernel
theorem dX4_finish_27 : decode cX4_finish 27 = .ok (.iconst 1, 1) := by decide +kernel
theorem dX4_finish_28 : decode cX4_finish 28 = .ok (.iadd, 1) := by decide +kernel
theorem dX4_finish_29 : decode cX4_finish 29 = .ok (.putfield 141, 3) := by decide +kernel
theorem dX4_finish_32 : decode cX4_finish 32 = .ok (.iload_n 1, 1) := by decide +kernel
theorem dX4_finish_33 : decode cX4_finish 33 = .ok (.ireturn, 1) := by decide +kernel
theorem dX4_isStale_0 : decode cX4_isStale 0 = .ok (.aload_n 1, 1) := by decide +kernel
theorem dX4_isStale_1 : decode cX4_isStale 1 = .ok (.getfield 186, 3) := by decide +kernel
theorem dX4_isStale_4 : decode cX4_isStale 4 = .ok (.aload_n 1, 1) := by decide +kernel
theorem dX4_isStale_5 : decode cX4_isStale 5 = .ok (.getfield 180, 3) := by decide +kernel
theorem dX4_isStale_8 : decode cX4_isStale 8 = .ok (.invokestatic 189, 3) := by decide +kernel
theorem dX4_isStale_11 : decode cX4_isStale 11 = .ok (.ishl, 1) := by decide +kernel
theorem dX4_isStale_12 : decode cX4_isStale 12 = .ok (.istore_n 3, 1) := by decide +kernel
theorem dX4_isStale_13 : decode cX4_isStale 13 = .ok (.aload_n 1, 1) := by decide +kernel
theorem dX4_isStale_14 : decode cX4_isStale 14 = .ok (.getfield 170, 3) := by decide +kernel
theorem dX4_isStale_17 : decode cX4_isStale 17 = .ok (.iload_n 2, 1) := by decide +kernel
theorem dX4_isStale_18 : decode cX4_isStale 18 = .ok (.invokestatic 173, 3) := by decide +kernel
theorem dX4_isStale_21 : decode cX4_isStale 21 = .ok (.ifCond .eq 22, 3) := by decide +kernel
theorem dX4_isStale_24 : decode cX4_isStale 24 = .ok (.aload_n 0, 1) := by decide +kernel
theorem dX4_isStale_25 : decode cX4_isStale 25 = .ok (.getfield 16, 3) := by decide +kernel
theorem dX4_isStale_28 : decode cX4_isStale 28 = .ok (.aload_n 1, 1) := by decide +kernel
theorem dX4_isStale_29 : decode cX4_isStale 29 = .ok (.getfield 177, 3) := by decide +kernel
theorem dX4_isStale_32 : decode cX4_isStale 32 = .ok (.aload_n 1, 1) := by decide +kernel
theorem dX4_isStale_33 : decode cX4_isStale 33 = .ok (.getfield 180, 3) := by decide +kernel
theorem dX4_isStale_36 : decode cX4_isStale 36 = .ok (.iload_n 3, 1) := by decide +kernel
theorem dX4_isStale_37 : decode cX4_isStale 37 = .ok (.invokevirtual 183, 3) := by decide +kernel
theorem dX4_isStale_40 : decode cX4_isStale 40 = .ok (.goto 4, 3) := by decide +kernel
theorem dX4_isStale_43 : decode cX4_isStale 43 = .ok (.iconst (-1), 1) := by decide +kernel
theorem dX4_isStale_44 : decode cX4_isStale 44 = .ok (.istore 4, 2) := by decide +kernel
theorem dX4_isStale_46 : decode cX4_isStale 46 = .ok (.aload_n 0, 1) := by decide +kernel
theorem dX4_isStale_47 : decode cX4_isStale 47 = .ok (.getfield 25, 3) := by decide +kernel
theorem dX4_isStale_50 : decode cX4_isStale 50 = .ok (.aload_n 0, 1) := by decide +kernel
theorem dX4_isStale_51 : decode cX4_isStale 51 = .ok (.getfield 38, 3) := by decide +kernel
theorem dX4_isStale_54 : decode cX4_isStale 54 = .ok (.aload_n 0, 1) := by decide +kernel
theorem dX4_isStale_55 : decode cX4_isStale 55 = .ok (.getfield 42, 3) := by decide +kernel
theorem dX4_isStale_58 : decode cX4_isStale 58 = .ok (.iaload, 1) := by decide +kernel
theorem dX4_isStale_59 : decode cX4_isStale 59 = .ok (.iload_n 3, 1) := by decide +kernel
theorem dX4_isStale_60 : decode cX4_isStale 60 = .ok (.iload_n 2, 1) := by decide +kernel
theorem dX4_isStale_61 : decode cX4_isStale 61 = .ok (.invokevirtual 104, 3) := by decide +kernel
theorem dX4_isStale_64 : decode cX4_isStale 64 = .ok (.pop, 1) := by decide +kernel
theorem dX4_isStale_65 : decode cX4_isStale 65 = .ok (.iload 4, 2) := by decide +kernel
theorem dX4_isStale_67 : decode cX4_isStale 67 = .ok (.aload_n 0, 1) := by decide +kernel
theorem dX4_isStale_68 : decode cX4_isStale 68 = .ok (.getfield 25, 3) := by decide +kernel
theorem dX4_isStale_71 : decode cX4_isStale 71 = .ok (.getfield 107, 3) := by decide +kernel
theorem dX4_isStale_74 : decode cX4_isStale 74 = .ok (.if_icmp .eq 7, 3) := by decide +kernel
theorem dX4_isStale_77 : decode cX4_isStale 77 = .ok (.iconst 1, 1) := by decide +kernel
theorem dX4_isStale_78 : decode cX4_isStale 78 = .ok (.goto 4, 3) := by decide +kernel
theorem dX4_isStale_81 : decode cX4_isStale 81 = .ok (.iconst 0, 1) := by decide +kernel
theorem dX4_isStale_82 : decode cX4_isStale 82 = .ok (.ireturn, 1) := by decide +kernel
theorem dX4_needsChangedMark_0 : decode cX4_needsChangedMark 0 = .ok (.iload_n 1, 1) := by decide +kernel
theorem dX4_needsChangedMark_1 : decode cX4_needsChangedMark 1 = .ok (.invokestatic 150, 3) := by decide +kernel
theorem dX4_needsChangedMark_4 : decode cX4_needsChangedMark 4 = .ok (.ifCond .eq 25, 3) := by decide +kernel
theorem dX4_needsChangedMark_7 : decode cX4_needsChangedMark 7 = .ok (.aload_n 0, 1) := by decide +kernel
theorem dX4_needsChangedMark_8 : decode cX4_needsChangedMark 8 = .ok (.getfield 192, 3) := by decide +kernel
theorem dX4_needsChangedMark_11 : decode cX4_needsChangedMark 11 = .ok (.ifCond .ne 18, 3) := by decide +kernel
theorem dX4_needsChangedMark_14 : decode cX4_needsChangedMark 14 = .ok (.aload_n 0, 1) := by decide +kernel
theorem dX4_needsChangedMark_15 : decode cX4_needsChangedMark 15 = .ok (.getfield 170, 3) := by decide +kernel
theorem dX4_needsChangedMark_18 : decode cX4_needsChangedMark 18 = .ok (.iload_n 1, 1) := by decide +kernel
theorem dX4_needsChangedMark_19 : decode cX4_needsChangedMark 19 = .ok (.invokestatic 173, 3) := by decide +kernel
theorem dX4_needsChangedMark_22 : decode cX4_needsChangedMark 22 = .ok (.ifCond .eq 7, 3) := by decide +kernel
theorem dX4_needsChangedMark_25 : decode cX4_needsChangedMark 25 = .ok (.iconst 1, 1) := by decide +kernel
theorem dX4_needsChangedMark_26 : decode cX4_needsChangedMark 26 = .ok (.goto 4, 3) := by decide +kernel
theorem dX4_needsChangedMark_29 : decode cX4_needsChangedMark 29 = .ok (.iconst 0, 1) := by decide +kernel
theorem dX4_needsChangedMark_30 : decode cX4_needsChangedMark 30 = .ok (.ireturn, 1) := by decide +kernel
theorem dX4_isKind_0 : decode cX4_isKind 0 = .ok (.iload_n 0, 1) := by decide +kernel
theorem dX4_isKind_1 : decode cX4_isKind 1 = .ok (.ifCond .lt 13, 3) := by decide +kernel
theorem dX4_isKind_4 : decode cX4_isKind 4 = .ok (.iload_n 0, 1) := by decide +kernel
theorem dX4_isKind_5 : decode cX4_isKind 5 = .ok (.bipush 6, 2) := by decide +kernel
theorem dX4_isKind_7 : decode cX4_isKind 7 = .ok (.if_icmp .ge 7, 3) := by decide +kernel
theorem dX4_isKind_10 : decode cX4_isKind 10 = .ok (.iconst 1, 1) := by decide +kernel
theorem dX4_isKind_11 : decode cX4_isKind 11 = .ok (.goto 4, 3) := by decide +kernel
theorem dX4_isKind_14 : decode cX4_isKind 14 = .ok (.iconst 0, 1) := by decide +kernel
theorem dX4_isKind_15 : decode cX4_isKind 15 = .ok (.ireturn, 1) := by decide +kernel
theorem dX4_isWrite_0 : decode cX4_isWrite 0 = .ok (.iload_n 0, 1) := by decide +kernel
theorem dX4_isWrite_1 : decode cX4_isWrite 1 = .ok (.iconst 3, 1) := by decide +kernel
theorem dX4_isWrite_2 : decode cX4_isWrite 2 = .ok (.irem, 1) := by decide +kernel
theorem dX4_isWrite_3 : decode cX4_isWrite 3 = .ok (.iconst 1, 1) := by decide +kernel
theorem dX4_isWrite_4 : decode cX4_isWrite 4 = .ok (.if_icmp .ne 7, 3) := by decide +kernel
theorem dX4_isWrite_7 : decode cX4_isWrite 7 = .ok (.iconst 1, 1) := by decide +kernel
theorem dX4_isWrite_8 : decode cX4_isWrite 8 = .ok (.goto 4, 3) := by decide +kernel
theorem dX4_isWrite_11 : decode cX4_isWrite 11 = .ok (.iconst 0, 1) := by decide +kernel
theorem dX4_isWrite_12 : decode cX4_isWrite 12 = .ok (.ireturn, 1) := by decide +kernel
theorem dX4_allows_0 : decode cX4_allows 0 = .ok (.iload_n 0, 1) := by decide +kernel
theorem dX4_allows_1 : decode cX4_allows 1 = .ok (.iload_n 1, 1) := by decide +kernel
theorem dX4_allows_2 : decode cX4_allows 2 = .ok (.iconst 3, 1) := by decide +kernel
theorem dX4_allows_3 : decode cX4_allows 3 = .ok (.irem, 1) := by decide +kernel
theorem dX4_allows_4 : decode cX4_allows 4 = .ok (.ishr, 1) := by decide +kernel
theorem dX4_allows_5 : decode cX4_allows 5 = .ok (.iconst 1, 1) := by decide +kernel
theorem dX4_allows_6 : decode cX4_allows 6 = .ok (.iand, 1) := by decide +kernel
theorem dX4_allows_7 : decode cX4_allows 7 = .ok (.ifCond .eq 7, 3) := by decide +kernel
theorem dX4_allows_10 : decode cX4_allows 10 = .ok (.iconst 1, 1) := by decide +kernel
theorem dX4_allows_11 : decode cX4_allows 11 = .ok (.goto 4, 3) := by decide +kernel
theorem dX4_allows_14 : decode cX4_allows 14 = .ok (.iconst 0, 1) := by decide +kernel
theorem dX4_allows_15 : decode cX4_allows 15 = .ok (.istore_n 2, 1) := by decide +kernel
theorem dX4_allows_16 : decode cX4_allows 16 = .ok (.iload_n 1, 1) := by decide +kernel
theorem dX4_allows_17 : decode cX4_allows 17 = .ok (.iconst 3, 1) := by decide +kernel
theorem dX4_allows_18 : decode cX4_allows 18 = .ok (.if_icmp .lt 10, 3) := by decide +kernel
theorem dX4_allows_21 : decode cX4_allows 21 = .ok (.iload_n 0, 1) := by decide +kernel
theorem dX4_allows_22 : decode cX4_allows 22 = .ok (.bipush 8, 2) := by decide +kernel
theorem dX4_allows_24 : decode cX4_allows 24 = .ok (.iand, 1) := by decide +kernel
theorem dX4_allows_25 : decode cX4_allows 25 = .ok (.ifCond .eq 7, 3) := by decide +kernel
theorem dX4_allows_28 : decode cX4_allows 28 = .ok (.iconst 1, 1) := by decide +kernel
theorem dX4_allows_29 : decode cX4_allows 29 = .ok (.goto 4, 3) := by decide +kernel
theorem dX4_allows_32 : decode cX4_allows 32 = .ok (.iconst 0, 1) := by decide +kernel
theorem dX4_allows_33 : decode cX4_allows 33 = .ok (.istore_n 3, 1) := by decide +kernel
theorem dX4_allows_34 : decode cX4_allows 34 = .ok (.iload_n 2, 1) := by decide +kernel
theorem dX4_allows_35 : decode cX4_allows 35 = .ok (.ifCond .eq 11, 3) := by decide +kernel
theorem dX4_allows_38 : decode cX4_allows 38 = .ok (.iload_n 3, 1) := by decide +kernel
theorem dX4_allows_39 : decode cX4_allows 39 = .ok (.ifCond .eq 7, 3) := by decide +kernel
theorem dX4_allows_42 : decode cX4_allows 42 = .ok (.iconst 1, 1) := by decide +kernel
theorem dX4_allows_43 : decode cX4_allows 43 = .ok (.goto 4, 3) := by decide +kernel
theorem dX4_allows_46 : decode cX4_allows 46 = .ok (.iconst 0, 1) := by decide +kernel
theorem dX4_allows_47 : decode cX4_allows 47 = .ok (.ireturn, 1) := by decide +kernel
theorem dX4_bitsBelow_0 : decode cX4_bitsBelow 0 = .ok (.bipush 8, 2) := by decide +kernel
theorem dX4_bitsBelow_2 : decode cX4_bitsBelow 2 = .ok (.iconst 4, 1) := by decide +kernel
theorem dX4_bitsBelow_3 : decode cX4_bitsBelow 3 = .ok (.iload_n 0, 1) := by decide +kernel
theorem dX4_bitsBelow_4 : decode cX4_bitsBelow 4 = .ok (.imul, 1) := by decide +kernel
theorem dX4_bitsBelow_5 : decode cX4_bitsBelow 5 = .ok (.iadd, 1) := by decide +kernel
theorem dX4_bitsBelow_6 : decode cX4_bitsBelow 6 = .ok (.ireturn, 1) := by decide +kernel
theorem dX4_frameOf_0 : decode cX4_frameOf 0 = .ok (.lload_n 0, 1) := by decide +kernel
theorem dX4_frameOf_1 : decode cX4_frameOf 1 = .ok (.bipush 8, 2) := by decide +kernel
theorem dX4_frameOf_3 : decode cX4_frameOf 3 = .ok (.lushr, 1) := by decide +kernel
theorem dX4_frameOf_4 : decode cX4_frameOf 4 = .ok (.l2i, 1) := by decide +kernel
theorem dX4_frameOf_5 : decode cX4_frameOf 5 = .ok (.ldc 195, 2) := by decide +kernel
theorem dX4_frameOf_7 : decode cX4_frameOf 7 = .ok (.iand, 1) := by decide +kernel
theorem dX4_frameOf_8 : decode cX4_frameOf 8 = .ok (.ireturn, 1) := by decide +kernel
theorem dX4_rightsOf_0 : decode cX4_rightsOf 0 = .ok (.lload_n 0, 1) := by decide +kernel
theorem dX4_rightsOf_1 : decode cX4_rightsOf 1 = .ok (.iconst 1, 1) := by decide +kernel
theorem dX4_rightsOf_2 : decode cX4_rightsOf 2 = .ok (.lushr, 1) := by decide +kernel
theorem dX4_rightsOf_3 : decode cX4_rightsOf 3 = .ok (.l2i, 1) := by decide +kernel
theorem dX4_rightsOf_4 : decode cX4_rightsOf 4 = .ok (.bipush 15, 2) := by decide +kernel
theorem dX4_rightsOf_6 : decode cX4_rightsOf 6 = .ok (.iand, 1) := by decide +kernel
theorem dX4_rightsOf_7 : decode cX4_rightsOf 7 = .ok (.ireturn, 1) := by decide +kernel
theorem dX0_init_0 : decode cX0_init 0 = .ok (.aload_n 0, 1) := by decide +kernel
theorem dX0_init_1 : decode cX0_init 1 = .ok (.invokespecial 3, 3) := by decide +kernel
theorem dX0_init_4 : decode cX0_init 4 = .ok (.aload_n 0, 1) := by decide +kernel
theorem dX0_init_5 : decode cX0_init 5 = .ok (.iload_n 1, 1) := by decide +kernel
theorem dX0_init_6 : decode cX0_init 6 = .ok (.anewarray 9, 3) := by decide +kernel
theorem dX0_init_9 : decode cX0_init 9 = .ok (.putfield 11, 3) := by decide +kernel
theorem dX0_init_12 : decode cX0_init 12 = .ok (.iconst 0, 1) := by decide +kernel
theorem dX0_init_13 : decode cX0_init 13 = .ok (.istore_n 2, 1) := by decide +kernel
theorem dX0_init_14 : decode cX0_init 14 = .ok (.iload_n 2, 1) := by decide +kernel
theorem dX0_init_15 : decode cX0_init 15 = .ok (.iload_n 1, 1) := by decide +kernel
theorem dX0_init_16 : decode cX0_init 16 = .ok (.if_icmp .ge 22, 3) := by decide +kernel
theorem dX0_init_19 : decode cX0_init 19 = .ok (.aload_n 0, 1) := by decide +kernel
theorem dX0_init_20 : decode cX0_init 20 = .ok (.getfield 11, 3) := by decide +kernel
theorem dX0_init_23 : decode cX0_init 23 = .ok (.iload_n 2, 1) := by decide +kernel
theorem dX0_init_24 : decode cX0_init 24 = .ok (.new 9, 3) := by decide +kernel
theorem dX0_init_27 : decode cX0_init 27 = .ok (.dup, 1) := by decide +kernel
theorem dX0_init_28 : decode cX0_init 28 = .ok (.invokespecial 17, 3) := by decide +kernel
theorem dX0_init_31 : decode cX0_init 31 = .ok (.aastore, 1) := by decide +kernel
theorem dX0_init_32 : decode cX0_init 32 = .ok (.iinc 2 1, 3) := by decide +kernel
theorem dX0_init_35 : decode cX0_init 35 = .ok (.goto (-21), 3) := by decide +kernel
theorem dX0_init_38 : decode cX0_init 38 = .ok (.return_, 1) := by decide +kernel
theorem dX0_find_0 : decode cX0_find 0 = .ok (.iconst 0, 1) := by decide +kernel
theorem dX0_find_1 : decode cX0_find 1 = .ok (.istore_n 3, 1) := by decide +kernel
theorem dX0_find_2 : decode cX0_find 2 = .ok (.iload_n 3, 1) := by decide +kernel
theorem dX0_find_3 : decode cX0_find 3 = .ok (.aload_n 0, 1) := by decide +kernel
theorem dX0_find_4 : decode cX0_find 4 = .ok (.getfield 18, 3) := by decide +kernel
theorem dX0_find_7 : decode cX0_find 7 = .ok (.if_icmp .ge 25, 3) := by decide +kernel
theorem dX0_find_10 : decode cX0_find 10 = .ok (.aload_n 0, 1) := by decide +kernel
theorem dX0_find_11 : decode cX0_find 11 = .ok (.getfield 11, 3) := by decide +kernel
theorem dX0_find_14 : decode cX0_find 14 = .ok (.iload_n 3, 1) := by decide +kernel
theorem dX0_find_15 : decode cX0_find 15 = .ok (.aaload, 1) := by decide +kernel
theorem dX0_find_16 : decode cX0_find 16 = .ok (.iload_n 1, 1) := by decide +kernel
theorem dX0_find_17 : decode cX0_find 17 = .ok (.iload_n 2, 1) := by decide +kernel
theorem dX0_find_18 : decode cX0_find 18 = .ok (.invokevirtual 22, 3) := by decide +kernel
theorem dX0_find_21 : decode cX0_find 21 = .ok (.ifCond .eq 5, 3) := by decide +kernel
theorem dX0_find_24 : decode cX0_find 24 = .ok (.iload_n 3, 1) := by decide +kernel
theorem dX0_find_25 : decode cX0_find 25 = .ok (.ireturn, 1) := by decide +kernel
theorem dX0_find_26 : decode cX0_find 26 = .ok (.iinc 3 1, 3) := by decide +kernel
theorem dX0_find_29 : decode cX0_find 29 = .ok (.goto (-27), 3) := by decide +kernel
theorem dX0_find_32 : decode cX0_find 32 = .ok (.iconst (-1), 1) := by decide +kernel
theorem dX0_find_33 : decode cX0_find 33 = .ok (.ireturn, 1) := by decide +kernel
theorem dX0_use_0 : decode cX0_use 0 = .ok (.aload_n 0, 1) := by decide +kernel
theorem dX0_use_1 : decode cX0_use 1 = .ok (.getfield 11, 3) := by decide +kernel
theorem dX0_use_4 : decode cX0_use 4 = .ok (.iload_n 1, 1) := by decide +kernel
theorem dX0_use_5 : decode cX0_use 5 = .ok (.aaload, 1) := by decide +kernel
theorem dX0_use_6 : decode cX0_use 6 = .ok (.astore_n 2, 1) := by decide +kernel
theorem dX0_use_7 : decode cX0_use 7 = .ok (.iload_n 1, 1) := by decide +kernel
theorem dX0_use_8 : decode cX0_use 8 = .ok (.istore_n 3, 1) := by decide +kernel
theorem dX0_use_9 : decode cX0_use 9 = .ok (.iload_n 3, 1) := by decide +kernel
theorem dX0_use_10 : decode cX0_use 10 = .ok (.ifCond .le 23, 3) := by decide +kernel
theorem dX0_use_13 : decode cX0_use 13 = .ok (.aload_n 0, 1) := by decide +kernel
theorem dX0_use_14 : decode cX0_use 14 = .ok (.getfield 11, 3) := by decide +kernel
theorem dX0_use_17 : decode cX0_use 17 = .ok (.iload_n 3, 1) := by decide +kernel
theorem dX0_use_18 : decode cX0_use 18 = .ok (.aload_n 0, 1) := by decide +kernel
theorem dX0_use_19 : decode cX0_use 19 = .ok (.getfield 11, 3) := by decide +kernel
theorem dX0_use_22 : decode cX0_use 22 = .ok (.iload_n 3, 1) := by decide +kernel
theorem dX0_use_23 : decode cX0_use 23 = .ok (.iconst 1, 1) := by decide +kernel
theorem dX0_use_24 : decode cX0_use 24 = .ok (.isub, 1) := by decide +kernel
theorem dX0_use_25 : decode cX0_use 25 = .ok (.aaload, 1) := by decide +kernel
theorem dX0_use_26 : decode cX0_use 26 = .ok (.aastore, 1) := by decide +kernel
theorem dX0_use_27 : decode cX0_use 27 = .ok (.iinc 3 (-1), 3) := by decide +kernel
theorem dX0_use_30 : decode cX0_use 30 = .ok (.goto (-21), 3) := by decide +kernel
theorem dX0_use_33 : decode cX0_use 33 = .ok (.aload_n 0, 1) := by decide +kernel
theorem dX0_use_34 : decode cX0_use 34 = .ok (.getfield 11, 3) := by decide +kernel
theorem dX0_use_37 : decode cX0_use 37 = .ok (.iconst 0, 1) := by decide +kernel
theorem dX0_use_38 : decode cX0_use 38 = .ok (.aload_n 2, 1) := by decide +kernel
theorem dX0_use_39 : decode cX0_use 39 = .ok (.aastore, 1) := by decide +kernel
theorem dX0_use_40 : decode cX0_use 40 = .ok (.return_, 1) := by decide +kernel
theorem dX0_keep_0 : decode cX0_keep 0 = .ok (.aload_n 0, 1) := by decide +kernel
theorem dX0_keep_1 : decode cX0_keep 1 = .ok (.iload_n 1, 1) := by decide +kernel
theorem dX0_keep_2 : decode cX0_keep 2 = .ok (.iload_n 2, 1) := by decide +kernel
theorem dX0_keep_3 : decode cX0_keep 3 = .ok (.aload_n 3, 1) := by decide +kernel
theorem dX0_keep_4 : decode cX0_keep 4 = .ok (.getfield 26, 3) := by decide +kernel
theorem dX0_keep_7 : decode cX0_keep 7 = .ok (.invokevirtual 31, 3) := by decide +kernel
theorem dX0_keep_10 : decode cX0_keep 10 = .ok (.istore 4, 2) := by decide +kernel
theorem dX0_keep_12 : decode cX0_keep 12 = .ok (.aload_n 0, 1) := by decide +kernel
theorem dX0_keep_13 : decode cX0_keep 13 = .ok (.getfield 11, 3) := by decide +kernel
theorem dX0_keep_16 : decode cX0_keep 16 = .ok (.iload 4, 2) := by decide +kernel
theorem dX0_keep_18 : decode cX0_keep 18 = .ok (.aaload, 1) := by decide +kernel
theorem dX0_keep_19 : decode cX0_keep 19 = .ok (.astore 5, 2) := by decide +kernel
theorem dX0_keep_21 : decode cX0_keep 21 = .ok (.aload 5, 2) := by decide +kernel
theorem dX0_keep_23 : decode cX0_keep 23 = .ok (.iload_n 1, 1) := by decide +kernel
theorem dX0_keep_24 : decode cX0_keep 24 = .ok (.putfield 35, 3) := by decide +kernel
theorem dX0_keep_27 : decode cX0_keep 27 = .ok (.aload 5, 2) := by decide +kernel
theorem dX0_keep_29 : decode cX0_keep 29 = .ok (.aload_n 3, 1) := by decide +kernel
theorem dX0_keep_30 : decode cX0_keep 30 = .ok (.getfield 26, 3) := by decide +kernel
theorem dX0_keep_33 : decode cX0_keep 33 = .ok (.putfield 38, 3) := by decide +kernel
theorem dX0_keep_36 : decode cX0_keep 36 = .ok (.aload 5, 2) := by decide +kernel
theorem dX0_keep_38 : decode cX0_keep 38 = .ok (.iload_n 2, 1) := by decide +kernel
theorem dX0_keep_39 : decode cX0_keep 39 = .ok (.aload_n 3, 1) := by decide +kernel
theorem dX0_keep_40 : decode cX0_keep 40 = .ok (.getfield 26, 3) := by decide +kernel
theorem dX0_keep_43 : decode cX0_keep 43 = .ok (.invokestatic 39, 3) := by decide +kernel
theorem dX0_keep_46 : decode cX0_keep 46 = .ok (.iushr, 1) := by decide +kernel
theorem dX0_keep_47 : decode cX0_keep 47 = .ok (.putfield 43, 3) := by decide +kernel
theorem dX0_keep_50 : decode cX0_keep 50 = .ok (.aload 5, 2) := by decide +kernel
theorem dX0_keep_52 : decode cX0_keep 52 = .ok (.aload_n 3, 1) := by decide +kernel
theorem dX0_keep_53 : decode cX0_keep 53 = .ok (.getfield 46, 3) := by decide +kernel
theorem dX0_keep_56 : decode cX0_keep 56 = .ok (.invokestatic 50, 3) := by decide +kernel
theorem dX0_keep_59 : decode cX0_keep 59 = .ok (.putfield 54, 3) := by decide +kernel
theorem dX0_keep_62 : decode cX0_keep 62 = .ok (.aload 5, 2) := by decide +kernel
theorem dX0_keep_64 : decode cX0_keep 64 = .ok (.aload_n 3, 1) := by decide +kernel
theorem dX0_keep_65 : decode cX0_keep 65 = .ok (.getfield 46, 3) := by decide +kernel
theorem dX0_keep_68 : decode cX0_keep 68 = .ok (.invokestatic 57, 3) := by decide +kernel
theorem dX0_keep_71 : decode cX0_keep 71 = .ok (.putfield 60, 3) := by decide +kernel
theorem dX0_keep_74 : decode cX0_keep 74 = .ok (.aload 5, 2) := by decide +kernel
theorem dX0_keep_76 : decode cX0_keep 76 = .ok (.aload_n 3, 1) := by decide +kernel
theorem dX0_keep_77 : decode cX0_keep 77 = .ok (.getfield 46, 3) := by decide +kernel
theorem dX0_keep_80 : decode cX0_keep 80 = .ok (.ldc2_w 63, 3) := by decide +kernel
theorem dX0_keep_83 : decode cX0_keep 83 = .ok (.land, 1) := by decide +kernel
theorem dX0_keep_84 : decode cX0_keep 84 = .ok (.lconst 0, 1) := by decide +kernel
theorem dX0_keep_85 : decode cX0_keep 85 = .ok (.lcmp, 1) := by decide +kernel
theorem dX0_keep_86 : decode cX0_keep 86 = .ok (.ifCond .eq 7, 3) := by decide +kernel
theorem dX0_keep_89 : decode cX0_keep 89 = .ok (.iconst 1, 1) := by decide +kernel
theorem dX0_keep_90 : decode cX0_keep 90 = .ok (.goto 4, 3) := by decide +kernel
theorem dX0_keep_93 : decode cX0_keep 93 = .ok (.iconst 0, 1) := by decide +kernel
theorem dX0_keep_94 : decode cX0_keep 94 = .ok (.putfield 65, 3) := by decide +kernel
theorem dX0_keep_97 : decode cX0_keep 97 = .ok (.aload_n 0, 1) := by decide +kernel
theorem dX0_keep_98 : decode cX0_keep 98 = .ok (.iload 4, 2) := by decide +kernel
theorem dX0_keep_100 : decode cX0_keep 100 = .ok (.invokevirtual 69, 3) := by decide +kernel
theorem dX0_keep_103 : decode cX0_keep 103 = .ok (.return_, 1) := by decide +kernel
theorem dX0_rowFor_0 : decode cX0_rowFor 0 = .ok (.iconst 0, 1) := by decide +kernel
theorem dX0_rowFor_1 : decode cX0_rowFor 1 = .ok (.istore 4, 2) := by decide +kernel
theorem dX0_rowFor_3 : decode cX0_rowFor 3 = .ok (.iload 4, 2) := by decide +kernel
theorem dX0_rowFor_5 : decode cX0_rowFor 5 = .ok (.aload_n 0, 1) := by decide +kernel
theorem dX0_rowFor_6 : decode cX0_rowFor 6 = .ok (.getfield 18, 3) := by decide +kernel
theorem dX0_rowFor_9 : decode cX0_rowFor 9 = .ok (.if_icmp .ge 41, 3) := by decide +kernel
theorem dX0_rowFor_12 : decode cX0_rowFor 12 = .ok (.aload_n 0, 1) := by decide +kernel
theorem dX0_rowFor_13 : decode cX0_rowFor 13 = .ok (.getfield 11, 3) := by decide +kernel
theorem dX0_rowFor_16 : decode cX0_rowFor 16 = .ok (.iload 4, 2) := by decide +kernel
theorem dX0_rowFor_18 : decode cX0_rowFor 18 = .ok (.aaload, 1) := by decide +kernel
theorem dX0_rowFor_19 : decode cX0_rowFor 19 = .ok (.getfield 38, 3) := by decide +kernel
theorem dX0_rowFor_22 : decode cX0_rowFor 22 = .ok (.iload_n 3, 1) := by decide +kernel
theorem dX0_rowFor_23 : decode cX0_rowFor 23 = .ok (.if_icmp .ne 21, 3) := by decide +kernel
theorem dX0_rowFor_26 : decode cX0_rowFor 26 = .ok (.aload_n 0, 1) := by decide +kernel
theorem dX0_rowFor_27 : decode cX0_rowFor 27 = .ok (.getfield 11, 3) := by decide +kernel
theorem dX0_rowFor_30 : decode cX0_rowFor 30 = .ok (.iload 4, 2) := by decide +kernel
theorem dX0_rowFor_32 : decode cX0_rowFor 32 = .ok (.aaload, 1) := by decide +kernel
theorem dX0_rowFor_33 : decode cX0_rowFor 33 = .ok (.iload_n 1, 1) := by decide +kernel
theorem dX0_rowFor_34 : decode cX0_rowFor 34 = .ok (.iload_n 2, 1) := by decide +kernel
theorem dX0_rowFor_35 : decode cX0_rowFor 35 = .ok (.invokevirtual 22, 3) := by decide +kernel
theorem dX0_rowFor_38 : decode cX0_rowFor 38 = .ok (.ifCond .eq 6, 3) := by decide +kernel
theorem dX0_rowFor_41 : decode cX0_rowFor 41 = .ok (.iload 4, 2) := by decide +kernel
theorem dX0_rowFor_43 : decode cX0_rowFor 43 = .ok (.ireturn, 1) := by decide +kernel
theorem dX0_rowFor_44 : decode cX0_rowFor 44 = .ok (.iinc 4 1, 3) := by decide +kernel
theorem dX0_rowFor_47 : decode cX0_rowFor 47 = .ok (.goto (-44), 3) := by decide +kernel
theorem dX0_rowFor_50 : decode cX0_rowFor 50 = .ok (.aload_n 0, 1) := by decide +kernel
theorem dX0_rowFor_51 : decode cX0_rowFor 51 = .ok (.getfield 18, 3) := by decide +kernel
theorem dX0_rowFor_54 : decode cX0_rowFor 54 = .ok (.aload_n 0, 1) := by decide +kernel
theorem dX0_rowFor_55 : decode cX0_rowFor 55 = .ok (.getfield 11, 3) := by decide +kernel
theorem dX0_rowFor_58 : decode cX0_rowFor 58 = .ok (.arraylength, 1) := by decide +kernel
theorem dX0_rowFor_59 : decode cX0_rowFor 59 = .ok (.if_icmp .ge 16, 3) := by decide +kernel
theorem dX0_rowFor_62 : decode cX0_rowFor 62 = .ok (.aload_n 0, 1) := by decide +kernel
theorem dX0_rowFor_63 : decode cX0_rowFor 63 = .ok (.dup, 1) := by decide +kernel
theorem dX0_rowFor_64 : decode cX0_rowFor 64 = .ok (.getfield 18, 3) := by decide +kernel
theorem dX0_rowFor_67 : decode cX0_rowFor 67 = .ok (.iconst 1, 1) := by decide +kernel
theorem dX0_rowFor_68 : decode cX0_rowFor 68 = .ok (.iadd, 1) := by decide +kernel
theorem dX0_rowFor_69 : decode cX0_rowFor 69 = .ok (.putfield 18, 3) := by decide +kernel
theorem dX0_rowFor_72 : decode cX0_rowFor 72 = .ok (.goto 13, 3) := by decide +kernel
theorem dX0_rowFor_75 : decode cX0_rowFor 75 = .ok (.aload_n 0, 1) := by decide +kernel
theorem dX0_rowFor_76 : decode cX0_rowFor 76 = .ok (.dup, 1) := by decide +kernel
theorem dX0_rowFor_77 : decode cX0_rowFor 77 = .ok (.getfield 73, 3) := by decide +kernel
theorem dX0_rowFor_80 : decode cX0_rowFor 80 = .ok (.iconst 1, 1) := by decide +kernel
theorem dX0_rowFor_81 : decode cX0_rowFor 81 = .ok (.iadd, 1) := by decide +kernel
theorem dX0_rowFor_82 : decode cX0_rowFor 82 = .ok (.putfield 73, 3) := by decide +kernel
theorem dX0_rowFor_85 : decode cX0_rowFor 85 = .ok (.aload_n 0, 1) := by decide +kernel
theorem dX0_rowFor_86 : decode cX0_rowFor 86 = .ok (.getfield 18, 3) := by decide +kernel
theorem dX0_rowFor_89 : decode cX0_rowFor 89 = .ok (.iconst 1, 1) := by decide +kernel
theorem dX0_rowFor_90 : decode cX0_rowFor 90 = .ok (.isub, 1) := by decide +kernel
theorem dX0_rowFor_91 : decode cX0_rowFor 91 = .ok (.ireturn, 1) := by decide +kernel
theorem dX0_forget_0 : decode cX0_forget 0 = .ok (.iconst 0, 1) := by decide +kernel
theorem dX0_forget_1 : decode cX0_forget 1 = .ok (.istore 4, 2) := by decide +kernel
theorem dX0_forget_3 : decode cX0_forget 3 = .ok (.iconst 0, 1) := by decide +kernel
theorem dX0_forget_4 : decode cX0_forget 4 = .ok (.istore 5, 2) := by decide +kernel
theorem dX0_forget_6 : decode cX0_forget 6 = .ok (.iload 5, 2) := by decide +kernel
theorem dX0_forget_8 : decode cX0_forget 8 = .ok (.aload_n 0, 1) := by decide +kernel
theorem dX0_forget_9 : decode cX0_forget 9 = .ok (.getfield 18, 3) := by decide +kernel
theorem dX0_forget_12 : decode cX0_forget 12 = .ok (.if_icmp .ge 55, 3) := by decide +kernel
theorem dX0_forget_15 : decode cX0_forget 15 = .ok (.aload_n 0, 1) := by decide +kernel
theorem dX0_forget_16 : decode cX0_forget 16 = .ok (.getfield 11, 3) := by decide +kernel
theorem dX0_forget_19 : decode cX0_forget 19 = .ok (.iload 5, 2) := by decide +kernel
theorem dX0_forget_21 : decode cX0_forget 21 = .ok (.aaload, 1) := by decide +kernel
theorem dX0_forget_22 : decode cX0_forget 22 = .ok (.astore 6, 2) := by decide +kernel
theorem dX0_forget_24 : decode cX0_forget 24 = .ok (.aload 6, 2) := by decide +kernel
theorem dX0_forget_26 : decode cX0_forget 26 = .ok (.iload_n 1, 1) := by decide +kernel
theorem dX0_forget_27 : decode cX0_forget 27 = .ok (.iload_n 2, 1) := by decide +kernel
theorem dX0_forget_28 : decode cX0_forget 28 = .ok (.iload_n 3, 1) := by decide +kernel
theorem dX0_forget_29 : decode cX0_forget 29 = .ok (.invokestatic 76, 3) := by decide +kernel
theorem dX0_forget_32 : decode cX0_forget 32 = .ok (.ifCond .ne 29, 3) := by decide +kernel
theorem dX0_forget_35 : decode cX0_forget 35 = .ok (.aload_n 0, 1) := by decide +kernel
theorem dX0_forget_36 : decode cX0_forget 36 = .ok (.getfield 11, 3) := by decide +kernel
theorem dX0_forget_39 : decode cX0_forget 39 = .ok (.iload 5, 2) := by decide +kernel
theorem dX0_forget_41 : decode cX0_forget 41 = .ok (.aload_n 0, 1) := by decide +kernel
theorem dX0_forget_42 : decode cX0_forget 42 = .ok (.getfield 11, 3) := by decide +kernel
theorem dX0_forget_45 : decode cX0_forget 45 = .ok (.iload 4, 2) := by decide +kernel
theorem dX0_forget_47 : decode cX0_forget 47 = .ok (.aaload, 1) := by decide +kernel
theorem dX0_forget_48 : decode cX0_forget 48 = .ok (.aastore, 1) := by decide +kernel
theorem dX0_forget_49 : decode cX0_forget 49 = .ok (.aload_n 0, 1) := by decide +kernel
theorem dX0_forget_50 : decode cX0_forget 50 = .ok (.getfield 11, 3) := by decide +kernel
theorem dX0_forget_53 : decode cX0_forget 53 = .ok (.iload 4, 2) := by decide +kernel
theorem dX0_forget_55 : decode cX0_forget 55 = .ok (.aload 6, 2) := by decide +kernel
theorem dX0_forget_57 : decode cX0_forget 57 = .ok (.aastore, 1) := by decide +kernel
theorem dX0_forget_58 : decode cX0_forget 58 = .ok (.iinc 4 1, 3) := by decide +kernel
theorem dX0_forget_61 : decode cX0_forget 61 = .ok (.iinc 5 1, 3) := by decide +kernel
theorem dX0_forget_64 : decode cX0_forget 64 = .ok (.goto (-58), 3) := by decide +kernel
theorem dX0_forget_67 : decode cX0_forget 67 = .ok (.aload_n 0, 1) := by decide +kernel
theorem dX0_forget_68 : decode cX0_forget 68 = .ok (.getfield 18, 3) := by decide +kernel
theorem dX0_forget_71 : decode cX0_forget 71 = .ok (.iload 4, 2) := by decide +kernel
theorem dX0_forget_73 : decode cX0_forget 73 = .ok (.isub, 1) := by decide +kernel
theorem dX0_forget_74 : decode cX0_forget 74 = .ok (.istore 5, 2) := by decide +kernel
theorem dX0_forget_76 : decode cX0_forget 76 = .ok (.aload_n 0, 1) := by decide +kernel
theorem dX0_forget_77 : decode cX0_forget 77 = .ok (.iload 4, 2) := by decide +kernel
theorem dX0_forget_79 : decode cX0_forget 79 = .ok (.putfield 18, 3) := by decide +kernel
theorem dX0_forget_82 : decode cX0_forget 82 = .ok (.iload 5, 2) := by decide +kernel
theorem dX0_forget_84 : decode cX0_forget 84 = .ok (.ireturn, 1) := by decide +kernel
theorem dX0_isMeant_0 : decode cX0_isMeant 0 = .ok (.iload_n 1, 1) := by decide +kernel
theorem dX0_isMeant_1 : decode cX0_isMeant 1 = .ok (.lookupswitch 43 #[(0, 27), (1, 29)], 27) := by decide +kernel
theorem dX0_isMeant_28 : decode cX0_isMeant 28 = .ok (.iconst 1, 1) := by decide +kernel
theorem dX0_isMeant_29 : decode cX0_isMeant 29 = .ok (.ireturn, 1) := by decide +kernel
theorem dX0_isMeant_30 : decode cX0_isMeant 30 = .ok (.aload_n 0, 1) := by decide +kernel
theorem dX0_isMeant_31 : decode cX0_isMeant 31 = .ok (.getfield 35, 3) := by decide +kernel
theorem dX0_isMeant_34 : decode cX0_isMeant 34 = .ok (.iload_n 2, 1) := by decide +kernel
theorem dX0_isMeant_35 : decode cX0_isMeant 35 = .ok (.if_icmp .ne 7, 3) := by decide +kernel
theorem dX0_isMeant_38 : decode cX0_isMeant 38 = .ok (.iconst 1, 1) := by decide +kernel
theorem dX0_isMeant_39 : decode cX0_isMeant 39 = .ok (.goto 4, 3) := by decide +kernel
theorem dX0_isMeant_42 : decode cX0_isMeant 42 = .ok (.iconst 0, 1) := by decide +kernel
theorem dX0_isMeant_43 : decode cX0_isMeant 43 = .ok (.ireturn, 1) := by decide +kernel
theorem dX0_isMeant_44 : decode cX0_isMeant 44 = .ok (.aload_n 0, 1) := by decide +kernel
theorem dX0_isMeant_45 : decode cX0_isMeant 45 = .ok (.iload_n 2, 1) := by decide +kernel
theorem dX0_isMeant_46 : decode cX0_isMeant 46 = .ok (.iload_n 3, 1) := by decide +kernel
theorem dX0_isMeant_47 : decode cX0_isMeant 47 = .ok (.invokevirtual 22, 3) := by decide +kernel
theorem dX0_isMeant_50 : decode cX0_isMeant 50 = .ok (.ireturn, 1) := by decide +kernel
theorem dX1_init_0 : decode cX1_init 0 = .ok (.aload_n 0, 1) := by decide +kernel
theorem dX1_init_1 : decode cX1_init 1 = .ok (.invokespecial 1, 3) := by decide +kernel
theorem dX1_init_4 : decode cX1_init 4 = .ok (.return_, 1) := by decide +kernel
theorem dX1_standsFor_0 : decode cX1_standsFor 0 = .ok (.aload_n 0, 1) := by decide +kernel
theorem dX1_standsFor_1 : decode cX1_standsFor 1 = .ok (.getfield 7, 3) := by decide +kernel
theorem dX1_standsFor_4 : decode cX1_standsFor 4 = .ok (.iload_n 1, 1) := by decide +kernel
theorem dX1_standsFor_5 : decode cX1_standsFor 5 = .ok (.if_icmp .ne 23, 3) := by decide +kernel
theorem dX1_standsFor_8 : decode cX1_standsFor 8 = .ok (.aload_n 0, 1) := by decide +kernel
theorem dX1_standsFor_9 : decode cX1_standsFor 9 = .ok (.getfield 13, 3) := by decide +kernel
theorem dX1_standsFor_12 : decode cX1_standsFor 12 = .ok (.iload_n 2, 1) := by decide +kernel
theorem dX1_standsFor_13 : decode cX1_standsFor 13 = .ok (.aload_n 0, 1) := by decide +kernel
theorem dX1_standsFor_14 : decode cX1_standsFor 14 = .ok (.getfield 16, 3) := by decide +kernel
theorem dX1_standsFor_17 : decode cX1_standsFor 17 = .ok (.invokestatic 19, 3) := by decide +kernel
theorem dX1_standsFor_20 : decode cX1_standsFor 20 = .ok (.iushr, 1) := by decide +kernel
theorem dX1_standsFor_21 : decode cX1_standsFor 21 = .ok (.if_icmp .ne 7, 3) := by decide +kernel
theorem dX1_standsFor_24 : decode cX1_standsFor 24 = .ok (.iconst 1, 1) := by decide +kernel
theorem dX1_standsFor_25 : decode cX1_standsFor 25 = .ok (.goto 4, 3) := by decide +kernel
theorem dX1_standsFor_28 : decode cX1_standsFor 28 = .ok (.iconst 0, 1) := by decide +kernel
theorem dX1_standsFor_29 : decode cX1_standsFor 29 = .ok (.ireturn, 1) := by decide +kernel
theorem dX1_part_0 : decode cX1_part 0 = .ok (.iload_n 1, 1) := by decide +kernel
theorem dX1_part_1 : decode cX1_part 1 = .ok (.tableswitch 60 0 4 #[35, 40, 45, 50, 55], 35) := by decide +kernel
theorem dX1_part_36 : decode cX1_part 36 = .ok (.aload_n 0, 1) := by decide +kernel
theorem dX1_part_37 : decode cX1_part 37 = .ok (.getfield 7, 3) := by decide +kernel
theorem dX1_part_40 : decode cX1_part 40 = .ok (.ireturn, 1) := by decide +kernel
theorem dX1_part_41 : decode cX1_part 41 = .ok (.aload_n 0, 1) := by decide +kernel
theorem dX1_part_42 : decode cX1_part 42 = .ok (.getfield 16, 3) := by decide +kernel
theorem dX1_part_45 : decode cX1_part 45 = .ok (.ireturn, 1) := by decide +kernel
theorem dX1_part_46 : decode cX1_part 46 = .ok (.aload_n 0, 1) := by decide +kernel
theorem dX1_part_47 : decode cX1_part 47 = .ok (.getfield 13, 3) := by decide +kernel
theorem dX1_part_50 : decode cX1_part 50 = .ok (.ireturn, 1) := by decide +kernel
theorem dX1_part_51 : decode cX1_part 51 = .ok (.aload_n 0, 1) := by decide +kernel
theorem dX1_part_52 : decode cX1_part 52 = .ok (.getfield 25, 3) := by decide +kernel
theorem dX1_part_55 : decode cX1_part 55 = .ok (.ireturn, 1) := by decide +kernel
theorem dX1_part_56 : decode cX1_part 56 = .ok (.aload_n 0, 1) := by decide +kernel
theorem dX1_part_57 : decode cX1_part 57 = .ok (.getfield 28, 3) := by decide +kernel
theorem dX1_part_60 : decode cX1_part 60 = .ok (.ireturn, 1) := by decide +kernel
theorem dX1_part_61 : decode cX1_part 61 = .ok (.aload_n 0, 1) := by decide +kernel
theorem dX1_part_62 : decode cX1_part 62 = .ok (.getfield 31, 3) := by decide +kernel
theorem dX1_part_65 : decode cX1_part 65 = .ok (.ifCond .eq 7, 3) := by decide +kernel
theorem dX1_part_68 : decode cX1_part 68 = .ok (.iconst 1, 1) := by decide +kernel
theorem dX1_part_69 : decode cX1_part 69 = .ok (.goto 4, 3) := by decide +kernel
theorem dX1_part_72 : decode cX1_part 72 = .ok (.iconst 0, 1) := by decide +kernel
theorem dX1_part_73 : decode cX1_part 73 = .ok (.ireturn, 1) := by decide +kernel
theorem dX2_init_0 : decode cX2_init 0 = .ok (.aload_n 0, 1) := by decide +kernel
theorem dX2_init_1 : decode cX2_init 1 = .ok (.invokespecial 3, 3) := by decide +kernel
theorem dX2_init_4 : decode cX2_init 4 = .ok (.aload_n 0, 1) := by decide +kernel
theorem dX2_init_5 : decode cX2_init 5 = .ok (.sipush 4096, 3) := by decide +kernel
theorem dX2_init_8 : decode cX2_init 8 = .ok (.newarray .long, 2) := by decide +kernel
theorem dX2_init_10 : decode cX2_init 10 = .ok (.putfield 9, 3) := by decide +kernel
theorem dX2_init_13 : decode cX2_init 13 = .ok (.aload_n 0, 1) := by decide +kernel
theorem dX2_init_14 : decode cX2_init 14 = .ok (.sipush 256, 3) := by decide +kernel
theorem dX2_init_17 : decode cX2_init 17 = .ok (.newarray .int, 2) := by decide +kernel
theorem dX2_init_19 : decode cX2_init 19 = .ok (.putfield 15, 3) := by decide +kernel
theorem dX2_init_22 : decode cX2_init 22 = .ok (.iconst 0, 1) := by decide +kernel
theorem dX2_init_23 : decode cX2_init 23 = .ok (.istore_n 1, 1) := by decide +kernel
theorem dX2_init_24 : decode cX2_init 24 = .ok (.iload_n 1, 1) := by decide +kernel
theorem dX2_init_25 : decode cX2_init 25 = .ok (.sipush 256, 3) := by decide +kernel
theorem dX2_init_28 : decode cX2_init 28 = .ok (.if_icmp .ge 16, 3) := by decide +kernel
theorem dX2_init_31 : decode cX2_init 31 = .ok (.aload_n 0, 1) := by decide +kernel
theorem dX2_init_32 : decode cX2_init 32 = .ok (.getfield 15, 3) := by decide +kernel
theorem dX2_init_35 : decode cX2_init 35 = .ok (.iload_n 1, 1) := by decide +kernel
theorem dX2_init_36 : decode cX2_init 36 = .ok (.iconst (-1), 1) := by decide +kernel
theorem dX2_init_37 : decode cX2_init 37 = .ok (.iastore, 1) := by decide +kernel
theorem dX2_init_38 : decode cX2_init 38 = .ok (.iinc 1 1, 3) := by decide +kernel
theorem dX2_init_41 : decode cX2_init 41 = .ok (.goto (-17), 3) := by decide +kernel
theorem dX2_init_44 : decode cX2_init 44 = .ok (.return_, 1) := by decide +kernel
theorem dX2_homeOf_0 : decode cX2_homeOf 0 = .ok (.aload_n 0, 1) := by decide +kernel
theorem dX2_homeOf_1 : decode cX2_homeOf 1 = .ok (.getfield 19, 3) := by decide +kernel
theorem dX2_homeOf_4 : decode cX2_homeOf 4 = .ok (.ifCond .ne 5, 3) := by decide +kernel
theorem dX2_homeOf_7 : decode cX2_homeOf 7 = .ok (.iload_n 1, 1) := by decide +kernel
theorem dX2_homeOf_8 : decode cX2_homeOf 8 = .ok (.ireturn, 1) := by decide +kernel
theorem dX2_homeOf_9 : decode cX2_homeOf 9 = .ok (.iload_n 1, 1) := by decide +kernel
theorem dX2_homeOf_10 : decode cX2_homeOf 10 = .ok (.ifCond .lt 19, 3) := by decide +kernel
theorem dX2_homeOf_13 : decode cX2_homeOf 13 = .ok (.iload_n 1, 1) := by decide +kernel
theorem dX2_homeOf_14 : decode cX2_homeOf 14 = .ok (.sipush 256, 3) := by decide +kernel
theorem dX2_homeOf_17 : decode cX2_homeOf 17 = .ok (.if_icmp .ge 12, 3) := by decide +kernel
theorem dX2_homeOf_20 : decode cX2_homeOf 20 = .ok (.aload_n 0, 1) := by decide +kernel
theorem dX2_homeOf_21 : decode cX2_homeOf 21 = .ok (.getfield 15, 3) := by decide +kernel
theorem dX2_homeOf_24 : decode cX2_homeOf 24 = .ok (.iload_n 1, 1) := by decide +kernel
theorem dX2_homeOf_25 : decode cX2_homeOf 25 = .ok (.iaload, 1) := by decide +kernel
theorem dX2_homeOf_26 : decode cX2_homeOf 26 = .ok (.goto 4, 3) := by decide +kernel
theorem dX2_homeOf_29 : decode cX2_homeOf 29 = .ok (.iconst (-1), 1) := by decide +kernel
theorem dX2_homeOf_30 : decode cX2_homeOf 30 = .ok (.ireturn, 1) := by decide +kernel
theorem dX2_reach_0 : decode cX2_reach 0 = .ok (.iload_n 3, 1) := by decide +kernel
theorem dX2_reach_1 : decode cX2_reach 1 = .ok (.iconst 1, 1) := by decide +kernel
theorem dX2_reach_2 : decode cX2_reach 2 = .ok (.iload_n 2, 1) := by decide +kernel
theorem dX2_reach_3 : decode cX2_reach 3 = .ok (.invokestatic 23, 3) := by decide +kernel
theorem dX2_reach_6 : decode cX2_reach 6 = .ok (.ishl, 1) := by decide +kernel
theorem dX2_reach_7 : decode cX2_reach 7 = .ok (.iconst 1, 1) := by decide +kernel
theorem dX2_reach_8 : decode cX2_reach 8 = .ok (.isub, 1) := by decide +kernel
theorem dX2_reach_9 : decode cX2_reach 9 = .ok (.iand, 1) := by decide +kernel
theorem dX2_reach_10 : decode cX2_reach 10 = .ok (.bipush 8, 2) := by decide +kernel
theorem dX2_reach_12 : decode cX2_reach 12 = .ok (.ishr, 1) := by decide +kernel
theorem dX2_reach_13 : decode cX2_reach 13 = .ok (.istore 4, 2) := by decide +kernel
theorem dX2_reach_15 : decode cX2_reach 15 = .ok (.aload_n 0, 1) := by decide +kernel
theorem dX2_reach_16 : decode cX2_reach 16 = .ok (.iload_n 1, 1) := by decide +kernel
theorem dX2_reach_17 : decode cX2_reach 17 = .ok (.iload 4, 2) := by decide +kernel
theorem dX2_reach_19 : decode cX2_reach 19 = .ok (.iadd, 1) := by decide +kernel
theorem dX2_reach_20 : decode cX2_reach 20 = .ok (.invokevirtual 27, 3) := by decide +kernel
theorem dX2_reach_23 : decode cX2_reach 23 = .ok (.istore 5, 2) := by decide +kernel
theorem dX2_reach_25 : decode cX2_reach 25 = .ok (.iload 5, 2) := by decide +kernel
theorem dX2_reach_27 : decode cX2_reach 27 = .ok (.iconst (-1), 1) := by decide +kernel
theorem dX2_reach_28 : decode cX2_reach 28 = .ok (.if_icmp .ne 7, 3) := by decide +kernel
theorem dX2_reach_31 : decode cX2_reach 31 = .ok (.iconst (-1), 1) := by decide +kernel
theorem dX2_reach_32 : decode cX2_reach 32 = .ok (.goto 14, 3) := by decide +kernel
theorem dX2_reach_35 : decode cX2_reach 35 = .ok (.iload 5, 2) := by decide +kernel
theorem dX2_reach_37 : decode cX2_reach 37 = .ok (.bipush 8, 2) := by decide +kernel
theorem dX2_reach_39 : decode cX2_reach 39 = .ok (.ishl, 1) := by decide +kernel
theorem dX2_reach_40 : decode cX2_reach 40 = .ok (.iload_n 3, 1) := by decide +kernel
theorem dX2_reach_41 : decode cX2_reach 41 = .ok (.sipush 255, 3) := by decide +kernel
theorem dX2_reach_44 : decode cX2_reach 44 = .ok (.iand, 1) := by decide +kernel
theorem dX2_reach_45 : decode cX2_reach 45 = .ok (.iadd, 1) := by decide +kernel
theorem dX2_reach_46 : decode cX2_reach 46 = .ok (.ireturn, 1) := by decide +kernel
theorem dX3_init_0 : decode cX3_init 0 = .ok (.aload_n 0, 1) := by decide +kernel
theorem dX3_init_1 : decode cX3_init 1 = .ok (.invokespecial 3, 3) := by decide +kernel
theorem dX3_init_4 : decode cX3_init 4 = .ok (.aload_n 0, 1) := by decide +kernel
theorem dX3_init_5 : decode cX3_init 5 = .ok (.aload_n 1, 1) := by decide +kernel
theorem dX3_init_6 : decode cX3_init 6 = .ok (.putfield 9, 3) := by decide +kernel
theorem dX3_init_9 : decode cX3_init 9 = .ok (.aload_n 0, 1) := by decide +kernel
theorem dX3_init_10 : decode cX3_init 10 = .ok (.iload_n 2, 1) := by decide +kernel
theorem dX3_init_11 : decode cX3_init 11 = .ok (.putfield 15, 3) := by decide +kernel
theorem dX3_init_14 : decode cX3_init 14 = .ok (.aload_n 0, 1) := by decide +kernel
theorem dX3_init_15 : decode cX3_init 15 = .ok (.iconst 4, 1) := by decide +kernel
theorem dX3_init_16 : decode cX3_init 16 = .ok (.newarray .int, 2) := by decide +kernel
theorem dX3_init_18 : decode cX3_init 18 = .ok (.putfield 19, 3) := by decide +kernel
theorem dX3_init_21 : decode cX3_init 21 = .ok (.return_, 1) := by decide +kernel
theorem dX3_follow_0 : decode cX3_follow 0 = .ok (.aload_n 0, 1) := by decide +kernel
theorem dX3_follow_1 : decode cX3_follow 1 = .ok (.iconst 0, 1) := by decide +kernel
theorem dX3_follow_2 : decode cX3_follow 2 = .ok (.putfield 23, 3) := by decide +kernel
theorem dX3_follow_5 : decode cX3_follow 5 = .ok (.aload_n 0, 1) := by decide +kernel
theorem dX3_follow_6 : decode cX3_follow 6 = .ok (.iconst (-1), 1) := by decide +kernel
theorem dX3_follow_7 : decode cX3_follow 7 = .ok (.putfield 26, 3) := by decide +kernel
theorem dX3_follow_10 : decode cX3_follow 10 = .ok (.aload_n 0, 1) := by decide +kernel
theorem dX3_follow_11 : decode cX3_follow 11 = .ok (.iconst (-1), 1) := by decide +kernel
theorem dX3_follow_12 : decode cX3_follow 12 = .ok (.putfield 29, 3) := by decide +kernel
theorem dX3_follow_15 : decode cX3_follow 15 = .ok (.aload_n 0, 1) := by decide +kernel
theorem dX3_follow_16 : decode cX3_follow 16 = .ok (.iload_n 2, 1) := by decide +kernel
theorem dX3_follow_17 : decode cX3_follow 17 = .ok (.invokevirtual 32, 3) := by decide +kernel
theorem dX3_follow_20 : decode cX3_follow 20 = .ok (.ifCond .eq 10, 3) := by decide +kernel
theorem dX3_follow_23 : decode cX3_follow 23 = .ok (.aload_n 0, 1) := by decide +kernel
theorem dX3_follow_24 : decode cX3_follow 24 = .ok (.iconst 1, 1) := by decide +kernel
theorem dX3_follow_25 : decode cX3_follow 25 = .ok (.iconst 0, 1) := by decide +kernel
theorem dX3_follow_26 : decode cX3_follow 26 = .ok (.invokevirtual 36, 3) := by decide +kernel
theorem dX3_follow_29 : decode cX3_follow 29 = .ok (.ireturn, 1) := by decide +kernel
theorem dX3_follow_30 : decode cX3_follow 30 = .ok (.iload_n 1, 1) := by decide +kernel
theorem dX3_follow_31 : decode cX3_follow 31 = .ok (.istore 4, 2) := by decide +kernel
theorem dX3_follow_33 : decode cX3_follow 33 = .ok (.aload_n 0, 1) := by decide +kernel
theorem dX3_follow_34 : decode cX3_follow 34 = .ok (.getfield 15, 3) := by decide +kernel
theorem dX3_follow_37 : decode cX3_follow 37 = .ok (.istore 5, 2) := by decide +kernel
theorem dX3_follow_39 : decode cX3_follow 39 = .ok (.iinc 5 (-1), 3) := by decide +kernel
theorem dX3_follow_42 : decode cX3_follow 42 = .ok (.aload_n 0, 1) := by decide +kernel
theorem dX3_follow_43 : decode cX3_follow 43 = .ok (.iload 4, 2) := by decide +kernel
theorem dX3_follow_45 : decode cX3_follow 45 = .ok (.iload_n 2, 1) := by decide +kernel
theorem dX3_follow_46 : decode cX3_follow 46 = .ok (.iload 5, 2) := by decide +kernel
theorem dX3_follow_48 : decode cX3_follow 48 = .ok (.invokestatic 40, 3) := by decide +kernel
theorem dX3_follow_51 : decode cX3_follow 51 = .ok (.ishr, 1) := by decide +kernel
theorem dX3_follow_52 : decode cX3_follow 52 = .ok (.invokevirtual 44, 3) := by decide +kernel
theorem dX3_follow_55 : decode cX3_follow 55 = .ok (.istore 6, 2) := by decide +kernel
theorem dX3_follow_57 : decode cX3_follow 57 = .ok (.iload 6, 2) := by decide +kernel
theorem dX3_follow_59 : decode cX3_follow 59 = .ok (.ifCond .eq 19, 3) := by decide +kernel
theorem dX3_follow_62 : decode cX3_follow 62 = .ok (.aload_n 0, 1) := by decide +kernel
theorem dX3_follow_63 : decode cX3_follow 63 = .ok (.iload 6, 2) := by decide +kernel
theorem dX3_follow_65 : decode cX3_follow 65 = .ok (.aload_n 0, 1) := by decide +kernel
theorem dX3_follow_66 : decode cX3_follow 66 = .ok (.getfield 15, 3) := by decide +kernel
theorem dX3_follow_69 : decode cX3_follow 69 = .ok (.iconst 1, 1) := by decide +kernel
theorem dX3_follow_70 : decode cX3_follow 70 = .ok (.isub, 1) := by decide +kernel
theorem dX3_follow_71 : decode cX3_follow 71 = .ok (.iload 5, 2) := by decide +kernel
theorem dX3_follow_73 : decode cX3_follow 73 = .ok (.isub, 1) := by decide +kernel
theorem dX3_follow_74 : decode cX3_follow 74 = .ok (.invokevirtual 36, 3) := by decide +kernel
theorem dX3_follow_77 : decode cX3_follow 77 = .ok (.ireturn, 1) := by decide +kernel
theorem dX3_follow_78 : decode cX3_follow 78 = .ok (.aload_n 0, 1) := by decide +kernel
theorem dX3_follow_79 : decode cX3_follow 79 = .ok (.getfield 47, 3) := by decide +kernel
theorem dX3_follow_82 : decode cX3_follow 82 = .ok (.invokestatic 51, 3) := by decide +kernel
theorem dX3_follow_85 : decode cX3_follow 85 = .ok (.istore 4, 2) := by decide +kernel
theorem dX3_follow_87 : decode cX3_follow 87 = .ok (.iload 5, 2) := by decide +kernel
theorem dX3_follow_89 : decode cX3_follow 89 = .ok (.ifCond .le 16, 3) := by decide +kernel
theorem dX3_follow_92 : decode cX3_follow 92 = .ok (.aload_n 0, 1) := by decide +kernel
theorem dX3_follow_93 : decode cX3_follow 93 = .ok (.getfield 47, 3) := by decide +kernel
theorem dX3_follow_96 : decode cX3_follow 96 = .ok (.ldc2_w 55, 3) := by decide +kernel
theorem dX3_follow_99 : decode cX3_follow 99 = .ok (.land, 1) := by decide +kernel
theorem dX3_follow_100 : decode cX3_follow 100 = .ok (.lconst 0, 1) := by decide +kernel
theorem dX3_follow_101 : decode cX3_follow 101 = .ok (.lcmp, 1) := by decide +kernel
theorem dX3_follow_102 : decode cX3_follow 102 = .ok (.ifCond .eq (-63), 3) := by decide +kernel
theorem dX3_follow_105 : decode cX3_follow 105 = .ok (.aload_n 0, 1) := by decide +kernel
theorem dX3_follow_106 : decode cX3_follow 106 = .ok (.iload 5, 2) := by decide +kernel
theorem dX3_follow_108 : decode cX3_follow 108 = .ok (.putfield 57, 3) := by decide +kernel
theorem dX3_follow_111 : decode cX3_follow 111 = .ok (.aload_n 0, 1) := by decide +kernel
theorem dX3_follow_112 : decode cX3_follow 112 = .ok (.iload_n 3, 1) := by decide +kernel
theorem dX3_follow_113 : decode cX3_follow 113 = .ok (.invokevirtual 60, 3) := by decide +kernel
theorem dX3_follow_116 : decode cX3_follow 116 = .ok (.istore 6, 2) := by decide +kernel
theorem dX3_follow_118 : decode cX3_follow 118 = .ok (.iload 6, 2) := by decide +kernel
theorem dX3_follow_120 : decode cX3_follow 120 = .ok (.ifCond .eq 19, 3) := by decide +kernel
theorem dX3_follow_123 : decode cX3_follow 123 = .ok (.aload_n 0, 1) := by decide +kernel
theorem dX3_follow_124 : decode cX3_follow 124 = .ok (.iload 6, 2) := by decide +kernel
theorem dX3_follow_126 : decode cX3_follow 126 = .ok (.aload_n 0, 1) := by decide +kernel
theorem dX3_follow_127 : decode cX3_follow 127 = .ok (.getfield 15, 3) := by decide +kernel
theorem dX3_follow_130 : decode cX3_follow 130 = .ok (.iconst 1, 1) := by decide +kernel
theorem dX3_follow_131 : decode cX3_follow 131 = .ok (.isub, 1) := by decide +kernel
theorem dX3_follow_132 : decode cX3_follow 132 = .ok (.iload 5, 2) := by decide +kernel
theorem dX3_follow_134 : decode cX3_follow 134 = .ok (.isub, 1) := by decide +kernel
theorem dX3_follow_135 : decode cX3_follow 135 = .ok (.invokevirtual 36, 3) := by decide +kernel
theorem dX3_follow_138 : decode cX3_follow 138 = .ok (.ireturn, 1) := by decide +kernel
theorem dX3_follow_139 : decode cX3_follow 139 = .ok (.aload_n 0, 1) := by decide +kernel
theorem dX3_follow_140 : decode cX3_follow 140 = .ok (.aload_n 0, 1) := by decide +kernel
theorem dX3_follow_141 : decode cX3_follow 141 = .ok (.getfield 9, 3) := by decide +kernel
theorem dX3_follow_144 : decode cX3_follow 144 = .ok (.iload 4, 2) := by decide +kernel
theorem dX3_follow_146 : decode cX3_follow 146 = .ok (.aload_n 0, 1) := by decide +kernel
theorem dX3_follow_147 : decode cX3_follow 147 = .ok (.getfield 57, 3) := by decide +kernel
theorem dX3_follow_150 : decode cX3_follow 150 = .ok (.iload_n 2, 1) := by decide +kernel
theorem dX3_follow_151 : decode cX3_follow 151 = .ok (.invokevirtual 63, 3) := by decide +kernel
theorem dX3_follow_154 : decode cX3_follow 154 = .ok (.putfield 29, 3) := by decide +kernel
theorem dX3_follow_157 : decode cX3_follow 157 = .ok (.aload_n 0, 1) := by decide +kernel
theorem dX3_follow_158 : decode cX3_follow 158 = .ok (.getfield 29, 3) := by decide +kernel
theorem dX3_follow_161 : decode cX3_follow 161 = .ok (.iconst (-1), 1) := by decide +kernel
theorem dX3_follow_162 : decode cX3_follow 162 = .ok (.if_icmp .ne 16, 3) := by decide +kernel
theorem dX3_follow_165 : decode cX3_follow 165 = .ok (.aload_n 0, 1) := by decide +kernel
theorem dX3_follow_166 : decode cX3_follow 166 = .ok (.bipush 6, 2) := by decide +kernel
theorem dX3_follow_168 : decode cX3_follow 168 = .ok (.aload_n 0, 1) := by decide +kernel
theorem dX3_follow_169 : decode cX3_follow 169 = .ok (.getfield 15, 3) := by decide +kernel
theorem dX3_follow_172 : decode cX3_follow 172 = .ok (.invokevirtual 36, 3) := by decide +kernel
theorem dX3_follow_175 : decode cX3_follow 175 = .ok (.goto 4, 3) := by decide +kernel
theorem dX3_follow_178 : decode cX3_follow 178 = .ok (.iconst 0, 1) := by decide +kernel
theorem dX3_follow_179 : decode cX3_follow 179 = .ok (.ireturn, 1) := by decide +kernel
theorem dX3_isOutside_0 : decode cX3_isOutside 0 = .ok (.iload_n 1, 1) := by decide +kernel
theorem dX3_isOutside_1 : decode cX3_isOutside 1 = .ok (.ifCond .lt 16, 3) := by decide +kernel
theorem dX3_isOutside_4 : decode cX3_isOutside 4 = .ok (.iload_n 1, 1) := by decide +kernel
theorem dX3_isOutside_5 : decode cX3_isOutside 5 = .ok (.iconst 1, 1) := by decide +kernel
theorem dX3_isOutside_6 : decode cX3_isOutside 6 = .ok (.aload_n 0, 1) := by decide +kernel
theorem dX3_isOutside_7 : decode cX3_isOutside 7 = .ok (.getfield 15, 3) := by decide +kernel
theorem dX3_isOutside_10 : decode cX3_isOutside 10 = .ok (.invokestatic 40, 3) := by decide +kernel
theorem dX3_isOutside_13 : decode cX3_isOutside 13 = .ok (.ishl, 1) := by decide +kernel
theorem dX3_isOutside_14 : decode cX3_isOutside 14 = .ok (.if_icmp .lt 7, 3) := by decide +kernel
theorem dX3_isOutside_17 : decode cX3_isOutside 17 = .ok (.iconst 1, 1) := by decide +kernel
theorem dX3_isOutside_18 : decode cX3_isOutside 18 = .ok (.goto 4, 3) := by decide +kernel
theorem dX3_isOutside_21 : decode cX3_isOutside 21 = .ok (.iconst 0, 1) := by decide +kernel
theorem dX3_isOutside_22 : decode cX3_isOutside 22 = .ok (.ireturn, 1) := by decide +kernel
theorem dX3_stop_0 : decode cX3_stop 0 = .ok (.aload_n 0, 1) := by decide +kernel
theorem dX3_stop_1 : decode cX3_stop 1 = .ok (.iload_n 2, 1) := by decide +kernel
theorem dX3_stop_2 : decode cX3_stop 2 = .ok (.putfield 26, 3) := by decide +kernel
theorem dX3_stop_5 : decode cX3_stop 5 = .ok (.iload_n 1, 1) := by decide +kernel
theorem dX3_stop_6 : decode cX3_stop 6 = .ok (.ireturn, 1) := by decide +kernel
theorem dX3_read_0 : decode cX3_read 0 = .ok (.aload_n 0, 1) := by decide +kernel
theorem dX3_read_1 : decode cX3_read 1 = .ok (.getfield 9, 3) := by decide +kernel
theorem dX3_read_4 : decode cX3_read 4 = .ok (.iload_n 1, 1) := by decide +kernel
theorem dX3_read_5 : decode cX3_read 5 = .ok (.invokevirtual 69, 3) := by decide +kernel
theorem dX3_read_8 : decode cX3_read 8 = .ok (.istore_n 3, 1) := by decide +kernel
theorem dX3_read_9 : decode cX3_read 9 = .ok (.iload_n 3, 1) := by decide +kernel
theorem dX3_read_10 : decode cX3_read 10 = .ok (.iconst (-1), 1) := by decide +kernel
theorem dX3_read_11 : decode cX3_read 11 = .ok (.if_icmp .ne 6, 3) := by decide +kernel
theorem dX3_read_14 : decode cX3_read 14 = .ok (.bipush 6, 2) := by decide +kernel
theorem dX3_read_16 : decode cX3_read 16 = .ok (.ireturn, 1) := by decide +kernel
theorem dX3_read_17 : decode cX3_read 17 = .ok (.iload_n 3, 1) := by decide +kernel
theorem dX3_read_18 : decode cX3_read 18 = .ok (.sipush 256, 3) := by decide +kernel
theorem dX3_read_21 : decode cX3_read 21 = .ok (.if_icmp .lt 5, 3) := by decide +kernel
theorem dX3_read_24 : decode cX3_read 24 = .ok (.iconst 5, 1) := by decide +kernel
theorem dX3_read_25 : decode cX3_read 25 = .ok (.ireturn, 1) := by decide +kernel
theorem dX3_read_26 : decode cX3_read 26 = .ok (.iload_n 3, 1) := by decide +kernel
theorem dX3_read_27 : decode cX3_read 27 = .ok (.bipush 16, 2) := by decide +kernel
theorem dX3_read_29 : decode cX3_read 29 = .ok (.imul, 1) := by decide +kernel
theorem dX3_read_30 : decode cX3_read 30 = .ok (.iload_n 2, 1) := by decide +kernel
theorem dX3_read_31 : decode cX3_read 31 = .ok (.bipush 15, 2) := by decide +kernel
theorem dX3_read_33 : decode cX3_read 33 = .ok (.iand, 1) := by decide +kernel
theorem dX3_read_34 : decode cX3_read 34 = .ok (.iadd, 1) := by decide +kernel
theorem dX3_read_35 : decode cX3_read 35 = .ok (.istore 4, 2) := by decide +kernel
theorem dX3_read_37 : decode cX3_read 37 = .ok (.aload_n 0, 1) := by decide +kernel
theorem dX3_read_38 : decode cX3_read 38 = .ok (.aload_n 0, 1) := by decide +kernel
theorem dX3_read_39 : decode cX3_read 39 = .ok (.getfield 9, 3) := by decide +kernel
theorem dX3_read_42 : decode cX3_read 42 = .ok (.getfield 72, 3) := by decide +kernel
theorem dX3_read_45 : decode cX3_read 45 = .ok (.iload 4, 2) := by decide +kernel
theorem dX3_read_47 : decode cX3_read 47 = .ok (.laload, 1) := by decide +kernel
theorem dX3_read_48 : decode cX3_read 48 = .ok (.putfield 47, 3) := by decide +kernel
theorem dX3_read_51 : decode cX3_read 51 = .ok (.aload_n 0, 1) := by decide +kernel
theorem dX3_read_52 : decode cX3_read 52 = .ok (.getfield 19, 3) := by decide +kernel
theorem dX3_read_55 : decode cX3_read 55 = .ok (.aload_n 0, 1) := by decide +kernel
theorem dX3_read_56 : decode cX3_read 56 = .ok (.getfield 23, 3) := by decide +kernel
theorem dX3_read_59 : decode cX3_read 59 = .ok (.iload 4, 2) := by decide +kernel
theorem dX3_read_61 : decode cX3_read 61 = .ok (.iastore, 1) := by decide +kernel
theorem dX3_read_62 : decode cX3_read 62 = .ok (.aload_n 0, 1) := by decide +kernel
theorem dX3_read_63 : decode cX3_read 63 = .ok (.dup, 1) := by decide +kernel
theorem dX3_read_64 : decode cX3_read 64 = .ok (.getfield 23, 3) := by decide +kernel
theorem dX3_read_67 : decode cX3_read 67 = .ok (.iconst 1, 1) := by decide +kernel
theorem dX3_read_68 : decode cX3_read 68 = .ok (.iadd, 1) := by decide +kernel
theorem dX3_read_69 : decode cX3_read 69 = .ok (.putfield 23, 3) := by decide +kernel
theorem dX3_read_72 : decode cX3_read 72 = .ok (.aload_n 0, 1) := by decide +kernel
theorem dX3_read_73 : decode cX3_read 73 = .ok (.getfield 47, 3) := by decide +kernel
theorem dX3_read_76 : decode cX3_read 76 = .ok (.lconst 1, 1) := by decide +kernel
theorem dX3_read_77 : decode cX3_read 77 = .ok (.land, 1) := by decide +kernel
theorem dX3_read_78 : decode cX3_read 78 = .ok (.lconst 0, 1) := by decide +kernel
theorem dX3_read_79 : decode cX3_read 79 = .ok (.lcmp, 1) := by decide +kernel
theorem dX3_read_80 : decode cX3_read 80 = .ok (.ifCond .ne 7, 3) := by decide +kernel
theorem dX3_read_83 : decode cX3_read 83 = .ok (.iconst 2, 1) := by decide +kernel
theorem dX3_read_84 : decode cX3_read 84 = .ok (.goto 4, 3) := by decide +kernel
theorem dX3_read_87 : decode cX3_read 87 = .ok (.iconst 0, 1) := by decide +kernel
theorem dX3_read_88 : decode cX3_read 88 = .ok (.ireturn, 1) := by decide +kernel
theorem dX3_leafFault_0 : decode cX3_leafFault 0 = .ok (.iconst 1, 1) := by decide +kernel
theorem dX3_leafFault_1 : decode cX3_leafFault 1 = .ok (.iconst 4, 1) := by decide +kernel
theorem dX3_leafFault_2 : decode cX3_leafFault 2 = .ok (.aload_n 0, 1) := by decide +kernel
theorem dX3_leafFault_3 : decode cX3_leafFault 3 = .ok (.getfield 57, 3) := by decide +kernel
theorem dX3_leafFault_6 : decode cX3_leafFault 6 = .ok (.imul, 1) := by decide +kernel
theorem dX3_leafFault_7 : decode cX3_leafFault 7 = .ok (.ishl, 1) := by decide +kernel
theorem dX3_leafFault_8 : decode cX3_leafFault 8 = .ok (.iconst 1, 1) := by decide +kernel
theorem dX3_leafFault_9 : decode cX3_leafFault 9 = .ok (.isub, 1) := by decide +kernel
theorem dX3_leafFault_10 : decode cX3_leafFault 10 = .ok (.istore_n 2, 1) := by decide +kernel
theorem dX3_leafFault_11 : decode cX3_leafFault 11 = .ok (.aload_n 0, 1) := by decide +kernel
theorem dX3_leafFault_12 : decode cX3_leafFault 12 = .ok (.getfield 47, 3) := by decide +kernel
theorem dX3_leafFault_15 : decode cX3_leafFault 15 = .ok (.invokestatic 51, 3) := by decide +kernel
theorem dX3_leafFault_18 : decode cX3_leafFault 18 = .ok (.iload_n 2, 1) := by decide +kernel
theorem dX3_leafFault_19 : decode cX3_leafFault 19 = .ok (.iand, 1) := by decide +kernel
theorem dX3_leafFault_20 : decode cX3_leafFault 20 = .ok (.ifCond .eq 5, 3) := by decide +kernel
theorem dX3_leafFault_23 : decode cX3_leafFault 23 = .ok (.iconst 4, 1) := by decide +kernel
theorem dX3_leafFault_24 : decode cX3_leafFault 24 = .ok (.ireturn, 1) := by decide +kernel
theorem dX3_leafFault_25 : decode cX3_leafFault 25 = .ok (.aload_n 0, 1) := by decide +kernel
theorem dX3_leafFault_26 : decode cX3_leafFault 26 = .ok (.getfield 47, 3) := by decide +kernel
theorem dX3_leafFault_29 : decode cX3_leafFault 29 = .ok (.invokestatic 76, 3) := by decide +kernel
theorem dX3_leafFault_32 : decode cX3_leafFault 32 = .ok (.iload_n 1, 1) := by decide +kernel
theorem dX3_leafFault_33 : decode cX3_leafFault 33 = .ok (.invokestatic 79, 3) := by decide +kernel
theorem dX3_leafFault_36 : decode cX3_leafFault 36 = .ok (.ifCond .eq 7, 3) := by decide +kernel
theorem dX3_leafFault_39 : decode cX3_leafFault 39 = .ok (.iconst 0, 1) := by decide +kernel
theorem dX3_leafFault_40 : decode cX3_leafFault 40 = .ok (.goto 4, 3) := by decide +kernel
theorem dX3_leafFault_43 : decode cX3_leafFault 43 = .ok (.iconst 3, 1) := by decide +kernel
theorem dX3_leafFault_44 : decode cX3_leafFault 44 = .ok (.ireturn, 1) := by decide +kernel
theorem dX3_mark_0 : decode cX3_mark 0 = .ok (.iconst 0, 1) := by decide +kernel
theorem dX3_mark_1 : decode cX3_mark 1 = .ok (.istore_n 2, 1) := by decide +kernel
theorem dX3_mark_2 : decode cX3_mark 2 = .ok (.iload_n 2, 1) := by decide +kernel
theorem dX3_mark_3 : decode cX3_mark 3 = .ok (.aload_n 0, 1) := by decide +kernel
theorem dX3_mark_4 : decode cX3_mark 4 = .ok (.getfield 23, 3) := by decide +kernel
theorem dX3_mark_7 : decode cX3_mark 7 = .ok (.if_icmp .ge 29, 3) := by decide +kernel
theorem dX3_mark_10 : decode cX3_mark 10 = .ok (.aload_n 0, 1) := by decide +kernel
theorem dX3_mark_11 : decode cX3_mark 11 = .ok (.getfield 9, 3) := by decide +kernel
theorem dX3_mark_14 : decode cX3_mark 14 = .ok (.getfield 72, 3) := by decide +kernel
theorem dX3_mark_17 : decode cX3_mark 17 = .ok (.aload_n 0, 1) := by decide +kernel
theorem dX3_mark_18 : decode cX3_mark 18 = .ok (.getfield 19, 3) := by decide +kernel
theorem dX3_mark_21 : decode cX3_mark 21 = .ok (.iload_n 2, 1) := by decide +kernel
theorem dX3_mark_22 : decode cX3_mark 22 = .ok (.iaload, 1) := by decide +kernel
theorem dX3_mark_23 : decode cX3_mark 23 = .ok (.dup2, 1) := by decide +kernel
theorem dX3_mark_24 : decode cX3_mark 24 = .ok (.laload, 1) := by decide +kernel
theorem dX3_mark_25 : decode cX3_mark 25 = .ok (.ldc2_w 83, 3) := by decide +kernel
theorem dX3_mark_28 : decode cX3_mark 28 = .ok (.lor, 1) := by decide +kernel
theorem dX3_mark_29 : decode cX3_mark 29 = .ok (.lastore, 1) := by decide +kernel
theorem dX3_mark_30 : decode cX3_mark 30 = .ok (.iinc 2 1, 3) := by decide +kernel
theorem dX3_mark_33 : decode cX3_mark 33 = .ok (.goto (-31), 3) := by decide +kernel
theorem dX3_mark_36 : decode cX3_mark 36 = .ok (.aload_n 0, 1) := by decide +kernel
theorem dX3_mark_37 : decode cX3_mark 37 = .ok (.getfield 23, 3) := by decide +kernel
theorem dX3_mark_40 : decode cX3_mark 40 = .ok (.ifCond .le 47, 3) := by decide +kernel
theorem dX3_mark_43 : decode cX3_mark 43 = .ok (.aload_n 0, 1) := by decide +kernel
theorem dX3_mark_44 : decode cX3_mark 44 = .ok (.getfield 19, 3) := by decide +kernel
theorem dX3_mark_47 : decode cX3_mark 47 = .ok (.aload_n 0, 1) := by decide +kernel
theorem dX3_mark_48 : decode cX3_mark 48 = .ok (.getfield 23, 3) := by decide +kernel
theorem dX3_mark_51 : decode cX3_mark 51 = .ok (.iconst 1, 1) := by decide +kernel
theorem dX3_mark_52 : decode cX3_mark 52 = .ok (.isub, 1) := by decide +kernel
theorem dX3_mark_53 : decode cX3_mark 53 = .ok (.iaload, 1) := by decide +kernel
theorem dX3_mark_54 : decode cX3_mark 54 = .ok (.istore_n 2, 1) := by decide +kernel
theorem dX3_mark_55 : decode cX3_mark 55 = .ok (.iload_n 1, 1) := by decide +kernel
theorem dX3_mark_56 : decode cX3_mark 56 = .ok (.ifCond .eq 18, 3) := by decide +kernel
theorem dX3_mark_59 : decode cX3_mark 59 = .ok (.aload_n 0, 1) := by decide +kernel
theorem dX3_mark_60 : decode cX3_mark 60 = .ok (.getfield 9, 3) := by decide +kernel
theorem dX3_mark_63 : decode cX3_mark 63 = .ok (.getfield 72, 3) := by decide +kernel
theorem dX3_mark_66 : decode cX3_mark 66 = .ok (.iload_n 2, 1) := by decide +kernel
theorem dX3_mark_67 : decode cX3_mark 67 = .ok (.dup2, 1) := by decide +kernel
theorem dX3_mark_68 : decode cX3_mark 68 = .ok (.laload, 1) := by decide +kernel
theorem dX3_mark_69 : decode cX3_mark 69 = .ok (.ldc2_w 85, 3) := by decide +kernel
theorem dX3_mark_72 : decode cX3_mark 72 = .ok (.lor, 1) := by decide +kernel
theorem dX3_mark_73 : decode cX3_mark 73 = .ok (.lastore, 1) := by decide +kernel
theorem dX3_mark_74 : decode cX3_mark 74 = .ok (.aload_n 0, 1) := by decide +kernel
theorem dX3_mark_75 : decode cX3_mark 75 = .ok (.aload_n 0, 1) := by decide +kernel
theorem dX3_mark_76 : decode cX3_mark 76 = .ok (.getfield 9, 3) := by decide +kernel
theorem dX3_mark_79 : decode cX3_mark 79 = .ok (.getfield 72, 3) := by decide +kernel
theorem dX3_mark_82 : decode cX3_mark 82 = .ok (.iload_n 2, 1) := by decide +kernel
theorem dX3_mark_83 : decode cX3_mark 83 = .ok (.laload, 1) := by decide +kernel
theorem dX3_mark_84 : decode cX3_mark 84 = .ok (.putfield 47, 3) := by decide +kernel
theorem dX3_mark_87 : decode cX3_mark 87 = .ok (.return_, 1) := by decide +kernel
end
section
theorem dX5_init_0 : decode cX5_init 0 = .ok (.aload_n 0, 1) := by decide +kernel
theorem dX5_init_1 : decode cX5_init 1 = .ok (.invokespecial 1, 3) := by decide +kernel
theorem dX5_init_4 : decode cX5_init 4 = .ok (.aload_n 0, 1) := by decide +kernel
theorem dX5_init_5 : decode cX5_init 5 = .ok (.sipush 4096, 3) := by decide +kernel
theorem dX5_init_8 : decode cX5_init 8 = .ok (.newarray .long, 2) := by decide +kernel
theorem dX5_init_10 : decode cX5_init 10 = .ok (.putfield 7, 3) := by decide +kernel
theorem dX5_init_13 : decode cX5_init 13 = .ok (.aload_n 0, 1) := by decide +kernel
theorem dX5_init_14 : decode cX5_init 14 = .ok (.iconst 4, 1) := by decide +kernel
theorem dX5_init_15 : decode cX5_init 15 = .ok (.newarray .int, 2) := by decide +kernel
theorem dX5_init_17 : decode cX5_init 17 = .ok (.dup, 1) := by decide +kernel
theorem dX5_init_18 : decode cX5_init 18 = .ok (.iconst 0, 1) := by decide +kernel
theorem dX5_init_19 : decode cX5_init 19 = .ok (.iconst 0, 1) := by decide +kernel
theorem dX5_init_20 : decode cX5_init 20 = .ok (.iastore, 1) := by decide +kernel
theorem dX5_init_21 : decode cX5_init 21 = .ok (.dup, 1) := by decide +kernel
theorem dX5_init_22 : decode cX5_init 22 = .ok (.iconst 1, 1) := by decide +kernel
theorem dX5_init_23 : decode cX5_init 23 = .ok (.iconst 1, 1) := by decide +kernel
theorem dX5_init_24 : decode cX5_init 24 = .ok (.iastore, 1) := by decide +kernel
theorem dX5_init_25 : decode cX5_init 25 = .ok (.dup, 1) := by decide +kernel
theorem dX5_init_26 : decode cX5_init 26 = .ok (.iconst 2, 1) := by decide +kernel
theorem dX5_init_27 : decode cX5_init 27 = .ok (.iconst 2, 1) := by decide +kernel
theorem dX5_init_28 : decode cX5_init 28 = .ok (.iastore, 1) := by decide +kernel
theorem dX5_init_29 : decode cX5_init 29 = .ok (.dup, 1) := by decide +kernel
theorem dX5_init_30 : decode cX5_init 30 = .ok (.iconst 3, 1) := by decide +kernel
theorem dX5_init_31 : decode cX5_init 31 = .ok (.iconst 3, 1) := by decide +kernel
theorem dX5_init_32 : decode cX5_init 32 = .ok (.iastore, 1) := by decide +kernel
theorem dX5_init_33 : decode cX5_init 33 = .ok (.putfield 13, 3) := by decide +kernel
theorem dX5_init_36 : decode cX5_init 36 = .ok (.aload_n 0, 1) := by decide +kernel
theorem dX5_init_37 : decode cX5_init 37 = .ok (.sipush 256, 3) := by decide +kernel
theorem dX5_init_40 : decode cX5_init 40 = .ok (.newarray .int, 2) := by decide +kernel
theorem dX5_init_42 : decode cX5_init 42 = .ok (.putfield 17, 3) := by decide +kernel
theorem dX5_init_45 : decode cX5_init 45 = .ok (.aload_n 0, 1) := by decide +kernel
theorem dX5_init_46 : decode cX5_init 46 = .ok (.bipush 32, 2) := by decide +kernel
theorem dX5_init_48 : decode cX5_init 48 = .ok (.newarray .int, 2) := by decide +kernel
theorem dX5_init_50 : decode cX5_init 50 = .ok (.putfield 20, 3) := by decide +kernel
theorem dX5_init_53 : decode cX5_init 53 = .ok (.aload_n 0, 1) := by decide +kernel
theorem dX5_init_54 : decode cX5_init 54 = .ok (.bipush 32, 2) := by decide +kernel
theorem dX5_init_56 : decode cX5_init 56 = .ok (.newarray .int, 2) := by decide +kernel
theorem dX5_init_58 : decode cX5_init 58 = .ok (.putfield 23, 3) := by decide +kernel
theorem dX5_init_61 : decode cX5_init 61 = .ok (.aload_n 0, 1) := by decide +kernel
theorem dX5_init_62 : decode cX5_init 62 = .ok (.bipush 32, 2) := by decide +kernel
theorem dX5_init_64 : decode cX5_init 64 = .ok (.newarray .int, 2) := by decide +kernel
theorem dX5_init_66 : decode cX5_init 66 = .ok (.putfield 26, 3) := by decide +kernel
theorem dX5_init_69 : decode cX5_init 69 = .ok (.aload_n 0, 1) := by decide +kernel
theorem dX5_init_70 : decode cX5_init 70 = .ok (.bipush 32, 2) := by decide +kernel
theorem dX5_init_72 : decode cX5_init 72 = .ok (.newarray .int, 2) := by decide +kernel
theorem dX5_init_74 : decode cX5_init 74 = .ok (.putfield 29, 3) := by decide +kernel
theorem dX5_init_77 : decode cX5_init 77 = .ok (.aload_n 0, 1) := by decide +kernel
theorem dX5_init_78 : decode cX5_init 78 = .ok (.bipush 32, 2) := by decide +kernel
theorem dX5_init_80 : decode cX5_init 80 = .ok (.newarray .int, 2) := by decide +kernel
theorem dX5_init_82 : decode cX5_init 82 = .ok (.putfield 32, 3) := by decide +kernel
theorem dX5_init_85 : decode cX5_init 85 = .ok (.aload_n 0, 1) := by decide +kernel
theorem dX5_init_86 : decode cX5_init 86 = .ok (.bipush 32, 2) := by decide +kernel
theorem dX5_init_88 : decode cX5_init 88 = .ok (.newarray .int, 2) := by decide +kernel
theorem dX5_init_90 : decode cX5_init 90 = .ok (.putfield 35, 3) := by decide +kernel
theorem dX5_init_93 : decode cX5_init 93 = .ok (.aload_n 0, 1) := by decide +kernel
theorem dX5_init_94 : decode cX5_init 94 = .ok (.bipush 32, 2) := by decide +kernel
theorem dX5_init_96 : decode cX5_init 96 = .ok (.newarray .boolean, 2) := by decide +kernel
theorem dX5_init_98 : decode cX5_init 98 = .ok (.putfield 38, 3) := by decide +kernel
theorem dX5_init_101 : decode cX5_init 101 = .ok (.aload_n 0, 1) := by decide +kernel
theorem dX5_init_102 : decode cX5_init 102 = .ok (.iconst (-1), 1) := by decide +kernel
theorem dX5_init_103 : decode cX5_init 103 = .ok (.putfield 42, 3) := by decide +kernel
theorem dX5_init_106 : decode cX5_init 106 = .ok (.aload_n 0, 1) := by decide +kernel
theorem dX5_init_107 : decode cX5_init 107 = .ok (.iconst (-1), 1) := by decide +kernel
theorem dX5_init_108 : decode cX5_init 108 = .ok (.putfield 46, 3) := by decide +kernel
theorem dX5_init_111 : decode cX5_init 111 = .ok (.aload_n 0, 1) := by decide +kernel
theorem dX5_init_112 : decode cX5_init 112 = .ok (.iconst 4, 1) := by decide +kernel
theorem dX5_init_113 : decode cX5_init 113 = .ok (.newarray .int, 2) := by decide +kernel
theorem dX5_init_115 : decode cX5_init 115 = .ok (.putfield 49, 3) := by decide +kernel
theorem dX5_init_118 : decode cX5_init 118 = .ok (.aload_n 0, 1) := by decide +kernel
theorem dX5_init_119 : decode cX5_init 119 = .ok (.iconst 1, 1) := by decide +kernel
theorem dX5_init_120 : decode cX5_init 120 = .ok (.iload_n 1, 1) := by decide +kernel
theorem dX5_init_121 : decode cX5_init 121 = .ok (.iconst 1, 1) := by decide +kernel
theorem dX5_init_122 : decode cX5_init 122 = .ok (.isub, 1) := by decide +kernel
theorem dX5_init_123 : decode cX5_init 123 = .ok (.iconst 3, 1) := by decide +kernel
theorem dX5_init_124 : decode cX5_init 124 = .ok (.iand, 1) := by decide +kernel
theorem dX5_init_125 : decode cX5_init 125 = .ok (.iadd, 1) := by decide +kernel
theorem dX5_init_126 : decode cX5_init 126 = .ok (.putfield 52, 3) := by decide +kernel
theorem dX5_init_129 : decode cX5_init 129 = .ok (.aload_n 0, 1) := by decide +kernel
theorem dX5_init_130 : decode cX5_init 130 = .ok (.iconst 1, 1) := by decide +kernel
theorem dX5_init_131 : decode cX5_init 131 = .ok (.iload_n 2, 1) := by decide +kernel
theorem dX5_init_132 : decode cX5_init 132 = .ok (.iconst 1, 1) := by decide +kernel
theorem dX5_init_133 : decode cX5_init 133 = .ok (.isub, 1) := by decide +kernel
theorem dX5_init_134 : decode cX5_init 134 = .ok (.bipush 31, 2) := by decide +kernel
theorem dX5_init_136 : decode cX5_init 136 = .ok (.iand, 1) := by decide +kernel
theorem dX5_init_137 : decode cX5_init 137 = .ok (.iadd, 1) := by decide +kernel
theorem dX5_init_138 : decode cX5_init 138 = .ok (.putfield 55, 3) := by decide +kernel
theorem dX5_init_141 : decode cX5_init 141 = .ok (.iconst 0, 1) := by decide +kernel
theorem dX5_init_142 : decode cX5_init 142 = .ok (.istore_n 3, 1) := by decide +kernel
theorem dX5_init_143 : decode cX5_init 143 = .ok (.iload_n 3, 1) := by decide +kernel
theorem dX5_init_144 : decode cX5_init 144 = .ok (.sipush 256, 3) := by decide +kernel
theorem dX5_init_147 : decode cX5_init 147 = .ok (.if_icmp .ge 16, 3) := by decide +kernel
theorem dX5_init_150 : decode cX5_init 150 = .ok (.aload_n 0, 1) := by decide +kernel
theorem dX5_init_151 : decode cX5_init 151 = .ok (.getfield 17, 3) := by decide +kernel
theorem dX5_init_154 : decode cX5_init 154 = .ok (.iload_n 3, 1) := by decide +kernel
theorem dX5_init_155 : decode cX5_init 155 = .ok (.iconst (-1), 1) := by decide +kernel
theorem dX5_init_156 : decode cX5_init 156 = .ok (.iastore, 1) := by decide +kernel
theorem dX5_init_157 : decode cX5_init 157 = .ok (.iinc 3 1, 3) := by decide +kernel
theorem dX5_init_160 : decode cX5_init 160 = .ok (.goto (-17), 3) := by decide +kernel
theorem dX5_init_163 : decode cX5_init 163 = .ok (.return_, 1) := by decide +kernel
theorem dX5_thrown_0 : decode cX5_thrown 0 = .ok (.aload_n 0, 1) := by decide +kernel
theorem dX5_thrown_1 : decode cX5_thrown 1 = .ok (.getfield 58, 3) := by decide +kernel
theorem dX5_thrown_4 : decode cX5_thrown 4 = .ok (.ireturn, 1) := by decide +kernel
theorem dX5_throwing_0 : decode cX5_throwing 0 = .ok (.aload_n 0, 1) := by decide +kernel
theorem dX5_throwing_1 : decode cX5_throwing 1 = .ok (.iload_n 1, 1) := by decide +kernel
theorem dX5_throwing_2 : decode cX5_throwing 2 = .ok (.ifCond .eq 7, 3) := by decide +kernel
theorem dX5_throwing_5 : decode cX5_throwing 5 = .ok (.iconst 1, 1) := by decide +kernel
theorem dX5_throwing_6 : decode cX5_throwing 6 = .ok (.goto 12, 3) := by decide +kernel
theorem dX5_throwing_9 : decode cX5_throwing 9 = .ok (.iload_n 2, 1) := by decide +kernel
theorem dX5_throwing_10 : decode cX5_throwing 10 = .ok (.ifCond .eq 7, 3) := by decide +kernel
theorem dX5_throwing_13 : decode cX5_throwing 13 = .ok (.iconst 2, 1) := by decide +kernel
theorem dX5_throwing_14 : decode cX5_throwing 14 = .ok (.goto 4, 3) := by decide +kernel
theorem dX5_throwing_17 : decode cX5_throwing 17 = .ok (.iconst 0, 1) := by decide +kernel
theorem dX5_throwing_18 : decode cX5_throwing 18 = .ok (.putfield 58, 3) := by decide +kernel
theorem dX5_throwing_21 : decode cX5_throwing 21 = .ok (.aload_n 0, 1) := by decide +kernel
theorem dX5_throwing_22 : decode cX5_throwing 22 = .ok (.getfield 58, 3) := by decide +kernel
theorem dX5_throwing_25 : decode cX5_throwing 25 = .ok (.ifCond .le 7, 3) := by decide +kernel
theorem dX5_throwing_28 : decode cX5_throwing 28 = .ok (.iconst 1, 1) := by decide +kernel
theorem dX5_throwing_29 : decode cX5_throwing 29 = .ok (.goto 4, 3) := by decide +kernel
theorem dX5_throwing_32 : decode cX5_throwing 32 = .ok (.iconst 0, 1) := by decide +kernel
theorem dX5_throwing_33 : decode cX5_throwing 33 = .ok (.ireturn, 1) := by decide +kernel
theorem dX5_isOf_0 : decode cX5_isOf 0 = .ok (.iload_n 0, 1) := by decide +kernel
theorem dX5_isOf_1 : decode cX5_isOf 1 = .ok (.ifCond .lt 12, 3) := by decide +kernel
theorem dX5_isOf_4 : decode cX5_isOf 4 = .ok (.iload_n 0, 1) := by decide +kernel
theorem dX5_isOf_5 : decode cX5_isOf 5 = .ok (.iload_n 1, 1) := by decide +kernel
theorem dX5_isOf_6 : decode cX5_isOf 6 = .ok (.if_icmp .ge 7, 3) := by decide +kernel
theorem dX5_isOf_9 : decode cX5_isOf 9 = .ok (.iconst 1, 1) := by decide +kernel
theorem dX5_isOf_10 : decode cX5_isOf 10 = .ok (.goto 4, 3) := by decide +kernel
theorem dX5_isOf_13 : decode cX5_isOf 13 = .ok (.iconst 0, 1) := by decide +kernel
theorem dX5_isOf_14 : decode cX5_isOf 14 = .ok (.ireturn, 1) := by decide +kernel
theorem dX5_table_0 : decode cX5_table 0 = .ok (.aload_n 0, 1) := by decide +kernel
theorem dX5_table_1 : decode cX5_table 1 = .ok (.iload_n 1, 1) := by decide +kernel
theorem dX5_table_2 : decode cX5_table 2 = .ok (.sipush 4096, 3) := by decide +kernel
theorem dX5_table_5 : decode cX5_table 5 = .ok (.invokestatic 61, 3) := by decide +kernel
theorem dX5_table_8 : decode cX5_table 8 = .ok (.ifCond .ne 7, 3) := by decide +kernel
theorem dX5_table_11 : decode cX5_table 11 = .ok (.iconst 1, 1) := by decide +kernel
theorem dX5_table_12 : decode cX5_table 12 = .ok (.goto 4, 3) := by decide +kernel
theorem dX5_table_15 : decode cX5_table 15 = .ok (.iconst 0, 1) := by decide +kernel
theorem dX5_table_16 : decode cX5_table 16 = .ok (.iconst 0, 1) := by decide +kernel
theorem dX5_table_17 : decode cX5_table 17 = .ok (.invokevirtual 65, 3) := by decide +kernel
theorem dX5_table_20 : decode cX5_table 20 = .ok (.ifCond .eq 5, 3) := by decide +kernel
theorem dX5_table_23 : decode cX5_table 23 = .ok (.lconst 0, 1) := by decide +kernel
theorem dX5_table_24 : decode cX5_table 24 = .ok (.lreturn, 1) := by decide +kernel
theorem dX5_table_25 : decode cX5_table 25 = .ok (.aload_n 0, 1) := by decide +kernel
theorem dX5_table_26 : decode cX5_table 26 = .ok (.getfield 7, 3) := by decide +kernel
theorem dX5_table_29 : decode cX5_table 29 = .ok (.iload_n 1, 1) := by decide +kernel
theorem dX5_table_30 : decode cX5_table 30 = .ok (.laload, 1) := by decide +kernel
theorem dX5_table_31 : decode cX5_table 31 = .ok (.lstore 4, 2) := by decide +kernel
theorem dX5_table_33 : decode cX5_table 33 = .ok (.aload_n 0, 1) := by decide +kernel
theorem dX5_table_34 : decode cX5_table 34 = .ok (.getfield 7, 3) := by decide +kernel
theorem dX5_table_37 : decode cX5_table 37 = .ok (.iload_n 1, 1) := by decide +kernel
theorem dX5_table_38 : decode cX5_table 38 = .ok (.lload_n 2, 1) := by decide +kernel
theorem dX5_table_39 : decode cX5_table 39 = .ok (.lastore, 1) := by decide +kernel
theorem dX5_table_40 : decode cX5_table 40 = .ok (.lload 4, 2) := by decide +kernel
theorem dX5_table_42 : decode cX5_table 42 = .ok (.lreturn, 1) := by decide +kernel
theorem dX5_word_0 : decode cX5_word 0 = .ok (.aload_n 0, 1) := by decide +kernel
theorem dX5_word_1 : decode cX5_word 1 = .ok (.iload_n 1, 1) := by decide +kernel
theorem dX5_word_2 : decode cX5_word 2 = .ok (.sipush 4096, 3) := by decide +kernel
theorem dX5_word_5 : decode cX5_word 5 = .ok (.invokestatic 61, 3) := by decide +kernel
theorem dX5_word_8 : decode cX5_word 8 = .ok (.ifCond .ne 7, 3) := by decide +kernel
theorem dX5_word_11 : decode cX5_word 11 = .ok (.iconst 1, 1) := by decide +kernel
theorem dX5_word_12 : decode cX5_word 12 = .ok (.goto 4, 3) := by decide +kernel
theorem dX5_word_15 : decode cX5_word 15 = .ok (.iconst 0, 1) := by decide +kernel
theorem dX5_word_16 : decode cX5_word 16 = .ok (.iconst 0, 1) := by decide +kernel
theorem dX5_word_17 : decode cX5_word 17 = .ok (.invokevirtual 65, 3) := by decide +kernel
theorem dX5_word_20 : decode cX5_word 20 = .ok (.ifCond .eq 7, 3) := by decide +kernel
theorem dX5_word_23 : decode cX5_word 23 = .ok (.lconst 0, 1) := by decide +kernel
theorem dX5_word_24 : decode cX5_word 24 = .ok (.goto 9, 3) := by decide +kernel
theorem dX5_word_27 : decode cX5_word 27 = .ok (.aload_n 0, 1) := by decide +kernel
theorem dX5_word_28 : decode cX5_word 28 = .ok (.getfield 7, 3) := by decide +kernel
theorem dX5_word_31 : decode cX5_word 31 = .ok (.iload_n 1, 1) := by decide +kernel
theorem dX5_word_32 : decode cX5_word 32 = .ok (.laload, 1) := by decide +kernel
theorem dX5_word_33 : decode cX5_word 33 = .ok (.lreturn, 1) := by decide +kernel
theorem dX5_context_0 : decode cX5_context 0 = .ok (.aload_n 0, 1) := by decide +kernel
theorem dX5_context_1 : decode cX5_context 1 = .ok (.iload_n 1, 1) := by decide +kernel
theorem dX5_context_2 : decode cX5_context 2 = .ok (.iconst 4, 1) := by decide +kernel
theorem dX5_context_3 : decode cX5_context 3 = .ok (.invokestatic 61, 3) := by decide +kernel
theorem dX5_context_6 : decode cX5_context 6 = .ok (.ifCond .ne 7, 3) := by decide +kernel
theorem dX5_context_9 : decode cX5_context 9 = .ok (.iconst 1, 1) := by decide +kernel
theorem dX5_context_10 : decode cX5_context 10 = .ok (.goto 4, 3) := by decide +kernel
theorem dX5_context_13 : decode cX5_context 13 = .ok (.iconst 0, 1) := by decide +kernel
theorem dX5_context_14 : decode cX5_context 14 = .ok (.iconst 0, 1) := by decide +kernel
theorem dX5_context_15 : decode cX5_context 15 = .ok (.invokevirtual 65, 3) := by decide +kernel
theorem dX5_context_18 : decode cX5_context 18 = .ok (.ifCond .eq 5, 3) := by decide +kernel
theorem dX5_context_21 : decode cX5_context 21 = .ok (.iconst 0, 1) := by decide +kernel
theorem dX5_context_22 : decode cX5_context 22 = .ok (.ireturn, 1) := by decide +kernel
theorem dX5_context_23 : decode cX5_context 23 = .ok (.aload_n 0, 1) := by decide +kernel
theorem dX5_context_24 : decode cX5_context 24 = .ok (.getfield 69, 3) := by decide +kernel
theorem dX5_context_27 : decode cX5_context 27 = .ok (.istore_n 2, 1) := by decide +kernel
theorem dX5_context_28 : decode cX5_context 28 = .ok (.aload_n 0, 1) := by decide +kernel
theorem dX5_context_29 : decode cX5_context 29 = .ok (.iload_n 1, 1) := by decide +kernel
theorem dX5_context_30 : decode cX5_context 30 = .ok (.putfield 69, 3) := by decide +kernel
theorem dX5_context_33 : decode cX5_context 33 = .ok (.iload_n 2, 1) := by decide +kernel
theorem dX5_context_34 : decode cX5_context 34 = .ok (.ireturn, 1) := by decide +kernel
theorem dX5_root_0 : decode cX5_root 0 = .ok (.aload_n 0, 1) := by decide +kernel
theorem dX5_root_1 : decode cX5_root 1 = .ok (.iload_n 1, 1) := by decide +kernel
theorem dX5_root_2 : decode cX5_root 2 = .ok (.iconst 4, 1) := by decide +kernel
theorem dX5_root_3 : decode cX5_root 3 = .ok (.invokestatic 61, 3) := by decide +kernel
theorem dX5_root_6 : decode cX5_root 6 = .ok (.ifCond .ne 7, 3) := by decide +kernel
theorem dX5_root_9 : decode cX5_root 9 = .ok (.iconst 1, 1) := by decide +kernel
theorem dX5_root_10 : decode cX5_root 10 = .ok (.goto 4, 3) := by decide +kernel
theorem dX5_root_13 : decode cX5_root 13 = .ok (.iconst 0, 1) := by decide +kernel
theorem dX5_root_14 : decode cX5_root 14 = .ok (.iload_n 2, 1) := by decide +kernel
theorem dX5_root_15 : decode cX5_root 15 = .ok (.sipush 256, 3) := by decide +kernel
theorem dX5_root_18 : decode cX5_root 18 = .ok (.invokestatic 61, 3) := by decide +kernel
theorem dX5_root_21 : decode cX5_root 21 = .ok (.ifCond .ne 7, 3) := by decide +kernel
theorem dX5_root_24 : decode cX5_root 24 = .ok (.iconst 1, 1) := by decide +kernel
theorem dX5_root_25 : decode cX5_root 25 = .ok (.goto 4, 3) := by decide +kernel
theorem dX5_root_28 : decode cX5_root 28 = .ok (.iconst 0, 1) := by decide +kernel
theorem dX5_root_29 : decode cX5_root 29 = .ok (.invokevirtual 65, 3) := by decide +kernel
theorem dX5_root_32 : decode cX5_root 32 = .ok (.ifCond .eq 5, 3) := by decide +kernel
theorem dX5_root_35 : decode cX5_root 35 = .ok (.iconst 0, 1) := by decide +kernel
theorem dX5_root_36 : decode cX5_root 36 = .ok (.ireturn, 1) := by decide +kernel
theorem dX5_root_37 : decode cX5_root 37 = .ok (.aload_n 0, 1) := by decide +kernel
theorem dX5_root_38 : decode cX5_root 38 = .ok (.getfield 13, 3) := by decide +kernel
theorem dX5_root_41 : decode cX5_root 41 = .ok (.iload_n 1, 1) := by decide +kernel
theorem dX5_root_42 : decode cX5_root 42 = .ok (.iaload, 1) := by decide +kernel
theorem dX5_root_43 : decode cX5_root 43 = .ok (.istore_n 3, 1) := by decide +kernel
theorem dX5_root_44 : decode cX5_root 44 = .ok (.aload_n 0, 1) := by decide +kernel
theorem dX5_root_45 : decode cX5_root 45 = .ok (.getfield 13, 3) := by decide +kernel
theorem dX5_root_48 : decode cX5_root 48 = .ok (.iload_n 1, 1) := by decide +kernel
theorem dX5_root_49 : decode cX5_root 49 = .ok (.iload_n 2, 1) := by decide +kernel
theorem dX5_root_50 : decode cX5_root 50 = .ok (.iastore, 1) := by decide +kernel
theorem dX5_root_51 : decode cX5_root 51 = .ok (.iload_n 3, 1) := by decide +kernel
theorem dX5_root_52 : decode cX5_root 52 = .ok (.ireturn, 1) := by decide +kernel
theorem dX5_host_0 : decode cX5_host 0 = .ok (.aload_n 0, 1) := by decide +kernel
theorem dX5_host_1 : decode cX5_host 1 = .ok (.iload_n 1, 1) := by decide +kernel
theorem dX5_host_2 : decode cX5_host 2 = .ok (.sipush 256, 3) := by decide +kernel
theorem dX5_host_5 : decode cX5_host 5 = .ok (.invokestatic 61, 3) := by decide +kernel
theorem dX5_host_8 : decode cX5_host 8 = .ok (.ifCond .ne 7, 3) := by decide +kernel
theorem dX5_host_11 : decode cX5_host 11 = .ok (.iconst 1, 1) := by decide +kernel
theorem dX5_host_12 : decode cX5_host 12 = .ok (.goto 4, 3) := by decide +kernel
theorem dX5_host_15 : decode cX5_host 15 = .ok (.iconst 0, 1) := by decide +kernel
theorem dX5_host_16 : decode cX5_host 16 = .ok (.iload_n 2, 1) := by decide +kernel
theorem dX5_host_17 : decode cX5_host 17 = .ok (.iconst (-1), 1) := by decide +kernel
theorem dX5_host_18 : decode cX5_host 18 = .ok (.if_icmp .lt 9, 3) := by decide +kernel
theorem dX5_host_21 : decode cX5_host 21 = .ok (.iload_n 2, 1) := by decide +kernel
theorem dX5_host_22 : decode cX5_host 22 = .ok (.ldc 72, 2) := by decide +kernel
theorem dX5_host_24 : decode cX5_host 24 = .ok (.if_icmp .le 7, 3) := by decide +kernel
theorem dX5_host_27 : decode cX5_host 27 = .ok (.iconst 1, 1) := by decide +kernel
theorem dX5_host_28 : decode cX5_host 28 = .ok (.goto 4, 3) := by decide +kernel
theorem dX5_host_31 : decode cX5_host 31 = .ok (.iconst 0, 1) := by decide +kernel
theorem dX5_host_32 : decode cX5_host 32 = .ok (.invokevirtual 65, 3) := by decide +kernel
theorem dX5_host_35 : decode cX5_host 35 = .ok (.ifCond .eq 5, 3) := by decide +kernel
theorem dX5_host_38 : decode cX5_host 38 = .ok (.iconst 0, 1) := by decide +kernel
theorem dX5_host_39 : decode cX5_host 39 = .ok (.ireturn, 1) := by decide +kernel
theorem dX5_host_40 : decode cX5_host 40 = .ok (.aload_n 0, 1) := by decide +kernel
theorem dX5_host_41 : decode cX5_host 41 = .ok (.getfield 17, 3) := by decide +kernel
theorem dX5_host_44 : decode cX5_host 44 = .ok (.iload_n 1, 1) := by decide +kernel
theorem dX5_host_45 : decode cX5_host 45 = .ok (.iaload, 1) := by decide +kernel
theorem dX5_host_46 : decode cX5_host 46 = .ok (.istore_n 3, 1) := by decide +kernel
theorem dX5_host_47 : decode cX5_host 47 = .ok (.aload_n 0, 1) := by decide +kernel
theorem dX5_host_48 : decode cX5_host 48 = .ok (.getfield 17, 3) := by decide +kernel
theorem dX5_host_51 : decode cX5_host 51 = .ok (.iload_n 1, 1) := by decide +kernel
theorem dX5_host_52 : decode cX5_host 52 = .ok (.iload_n 2, 1) := by decide +kernel
theorem dX5_host_53 : decode cX5_host 53 = .ok (.iastore, 1) := by decide +kernel
theorem dX5_host_54 : decode cX5_host 54 = .ok (.iload_n 3, 1) := by decide +kernel
theorem dX5_host_55 : decode cX5_host 55 = .ok (.ireturn, 1) := by decide +kernel
theorem dX5_hosts_0 : decode cX5_hosts 0 = .ok (.aload_n 0, 1) := by decide +kernel
theorem dX5_hosts_1 : decode cX5_hosts 1 = .ok (.iconst 0, 1) := by decide +kernel
theorem dX5_hosts_2 : decode cX5_hosts 2 = .ok (.putfield 58, 3) := by decide +kernel
theorem dX5_hosts_5 : decode cX5_hosts 5 = .ok (.aload_n 0, 1) := by decide +kernel
theorem dX5_hosts_6 : decode cX5_hosts 6 = .ok (.getfield 73, 3) := by decide +kernel
theorem dX5_hosts_9 : decode cX5_hosts 9 = .ok (.istore_n 2, 1) := by decide +kernel
theorem dX5_hosts_10 : decode cX5_hosts 10 = .ok (.aload_n 0, 1) := by decide +kernel
theorem dX5_hosts_11 : decode cX5_hosts 11 = .ok (.iload_n 1, 1) := by decide +kernel
theorem dX5_hosts_12 : decode cX5_hosts 12 = .ok (.putfield 73, 3) := by decide +kernel
theorem dX5_hosts_15 : decode cX5_hosts 15 = .ok (.iload_n 2, 1) := by decide +kernel
theorem dX5_hosts_16 : decode cX5_hosts 16 = .ok (.ireturn, 1) := by decide +kernel
theorem dX5_mapped_0 : decode cX5_mapped 0 = .ok (.aload_n 0, 1) := by decide +kernel
theorem dX5_mapped_1 : decode cX5_mapped 1 = .ok (.getfield 73, 3) := by decide +kernel
theorem dX5_mapped_4 : decode cX5_mapped 4 = .ok (.ifCond .ne 7, 3) := by decide +kernel
theorem dX5_mapped_7 : decode cX5_mapped 7 = .ok (.iload_n 1, 1) := by decide +kernel
theorem dX5_mapped_8 : decode cX5_mapped 8 = .ok (.goto 23, 3) := by decide +kernel
theorem dX5_mapped_11 : decode cX5_mapped 11 = .ok (.iload_n 1, 1) := by decide +kernel
theorem dX5_mapped_12 : decode cX5_mapped 12 = .ok (.sipush 256, 3) := by decide +kernel
theorem dX5_mapped_15 : decode cX5_mapped 15 = .ok (.invokestatic 61, 3) := by decide +kernel
theorem dX5_mapped_18 : decode cX5_mapped 18 = .ok (.ifCond .eq 12, 3) := by decide +kernel
theorem dX5_mapped_21 : decode cX5_mapped 21 = .ok (.aload_n 0, 1) := by decide +kernel
theorem dX5_mapped_22 : decode cX5_mapped 22 = .ok (.getfield 17, 3) := by decide +kernel
theorem dX5_mapped_25 : decode cX5_mapped 25 = .ok (.iload_n 1, 1) := by decide +kernel
theorem dX5_mapped_26 : decode cX5_mapped 26 = .ok (.iaload, 1) := by decide +kernel
theorem dX5_mapped_27 : decode cX5_mapped 27 = .ok (.goto 4, 3) := by decide +kernel
theorem dX5_mapped_30 : decode cX5_mapped 30 = .ok (.iconst (-1), 1) := by decide +kernel
theorem dX5_mapped_31 : decode cX5_mapped 31 = .ok (.ireturn, 1) := by decide +kernel
theorem dX5_frameOf_0 : decode cX5_frameOf 0 = .ok (.lload_n 0, 1) := by decide +kernel
theorem dX5_frameOf_1 : decode cX5_frameOf 1 = .ok (.bipush 8, 2) := by decide +kernel
theorem dX5_frameOf_3 : decode cX5_frameOf 3 = .ok (.lshr, 1) := by decide +kernel
theorem dX5_frameOf_4 : decode cX5_frameOf 4 = .ok (.l2i, 1) := by decide +kernel
theorem dX5_frameOf_5 : decode cX5_frameOf 5 = .ok (.ldc 77, 2) := by decide +kernel
theorem dX5_frameOf_7 : decode cX5_frameOf 7 = .ok (.iand, 1) := by decide +kernel
theorem dX5_frameOf_8 : decode cX5_frameOf 8 = .ok (.ireturn, 1) := by decide +kernel
theorem dX5_rightsOf_0 : decode cX5_rightsOf 0 = .ok (.lload_n 0, 1) := by decide +kernel
theorem dX5_rightsOf_1 : decode cX5_rightsOf 1 = .ok (.iconst 1, 1) := by decide +kernel
theorem dX5_rightsOf_2 : decode cX5_rightsOf 2 = .ok (.lshr, 1) := by decide +kernel
theorem dX5_rightsOf_3 : decode cX5_rightsOf 3 = .ok (.l2i, 1) := by decide +kernel
theorem dX5_rightsOf_4 : decode cX5_rightsOf 4 = .ok (.bipush 15, 2) := by decide +kernel
theorem dX5_rightsOf_6 : decode cX5_rightsOf 6 = .ok (.iand, 1) := by decide +kernel
theorem dX5_rightsOf_7 : decode cX5_rightsOf 7 = .ok (.ireturn, 1) := by decide +kernel
theorem dX5_does_0 : decode cX5_does 0 = .ok (.iload_n 0, 1) := by decide +kernel
theorem dX5_does_1 : decode cX5_does 1 = .ok (.iload_n 1, 1) := by decide +kernel
theorem dX5_does_2 : decode cX5_does 2 = .ok (.iconst 3, 1) := by decide +kernel
theorem dX5_does_3 : decode cX5_does 3 = .ok (.irem, 1) := by decide +kernel
theorem dX5_does_4 : decode cX5_does 4 = .ok (.ishr, 1) := by decide +kernel
theorem dX5_does_5 : decode cX5_does 5 = .ok (.iconst 1, 1) := by decide +kernel
theorem dX5_does_6 : decode cX5_does 6 = .ok (.iand, 1) := by decide +kernel
theorem dX5_does_7 : decode cX5_does 7 = .ok (.iconst 1, 1) := by decide +kernel
theorem dX5_does_8 : decode cX5_does 8 = .ok (.if_icmp .ne 21, 3) := by decide +kernel
theorem dX5_does_11 : decode cX5_does 11 = .ok (.iload_n 1, 1) := by decide +kernel
theorem dX5_does_12 : decode cX5_does 12 = .ok (.iconst 3, 1) := by decide +kernel
theorem dX5_does_13 : decode cX5_does 13 = .ok (.if_icmp .lt 12, 3) := by decide +kernel
theorem dX5_does_16 : decode cX5_does 16 = .ok (.iload_n 0, 1) := by decide +kernel
theorem dX5_does_17 : decode cX5_does 17 = .ok (.bipush 8, 2) := by decide +kernel
theorem dX5_does_19 : decode cX5_does 19 = .ok (.iand, 1) := by decide +kernel
theorem dX5_does_20 : decode cX5_does 20 = .ok (.bipush 8, 2) := by decide +kernel
theorem dX5_does_22 : decode cX5_does 22 = .ok (.if_icmp .ne 7, 3) := by decide +kernel
theorem dX5_does_25 : decode cX5_does 25 = .ok (.iconst 1, 1) := by decide +kernel
theorem dX5_does_26 : decode cX5_does 26 = .ok (.goto 4, 3) := by decide +kernel
theorem dX5_does_29 : decode cX5_does 29 = .ok (.iconst 0, 1) := by decide +kernel
theorem dX5_does_30 : decode cX5_does 30 = .ok (.ireturn, 1) := by decide +kernel
theorem dX5_isOutside_0 : decode cX5_isOutside 0 = .ok (.iload_n 1, 1) := by decide +kernel
theorem dX5_isOutside_1 : decode cX5_isOutside 1 = .ok (.ifCond .lt 17, 3) := by decide +kernel
theorem dX5_isOutside_4 : decode cX5_isOutside 4 = .ok (.iload_n 1, 1) := by decide +kernel
theorem dX5_isOutside_5 : decode cX5_isOutside 5 = .ok (.bipush 8, 2) := by decide +kernel
theorem dX5_isOutside_7 : decode cX5_isOutside 7 = .ok (.iconst 4, 1) := by decide +kernel
theorem dX5_isOutside_8 : decode cX5_isOutside 8 = .ok (.aload_n 0, 1) := by decide +kernel
theorem dX5_isOutside_9 : decode cX5_isOutside 9 = .ok (.getfield 52, 3) := by decide +kernel
theorem dX5_isOutside_12 : decode cX5_isOutside 12 = .ok (.imul, 1) := by decide +kernel
theorem dX5_isOutside_13 : decode cX5_isOutside 13 = .ok (.iadd, 1) := by decide +kernel
theorem dX5_isOutside_14 : decode cX5_isOutside 14 = .ok (.ishr, 1) := by decide +kernel
theorem dX5_isOutside_15 : decode cX5_isOutside 15 = .ok (.ifCond .le 7, 3) := by decide +kernel
theorem dX5_isOutside_18 : decode cX5_isOutside 18 = .ok (.iconst 1, 1) := by decide +kernel
theorem dX5_isOutside_19 : decode cX5_isOutside 19 = .ok (.goto 4, 3) := by decide +kernel
theorem dX5_isOutside_22 : decode cX5_isOutside 22 = .ok (.iconst 0, 1) := by decide +kernel
theorem dX5_isOutside_23 : decode cX5_isOutside 23 = .ok (.ireturn, 1) := by decide +kernel
theorem dX5_fails_0 : decode cX5_fails 0 = .ok (.aload_n 0, 1) := by decide +kernel
theorem dX5_fails_1 : decode cX5_fails 1 = .ok (.iload_n 1, 1) := by decide +kernel
theorem dX5_fails_2 : decode cX5_fails 2 = .ok (.putfield 78, 3) := by decide +kernel
theorem dX5_fails_5 : decode cX5_fails 5 = .ok (.aload_n 0, 1) := by decide +kernel
theorem dX5_fails_6 : decode cX5_fails 6 = .ok (.iload_n 2, 1) := by decide +kernel
theorem dX5_fails_7 : decode cX5_fails 7 = .ok (.putfield 81, 3) := by decide +kernel
theorem dX5_fails_10 : decode cX5_fails 10 = .ok (.iconst 0, 1) := by decide +kernel
theorem dX5_fails_11 : decode cX5_fails 11 = .ok (.ireturn, 1) := by decide +kernel
theorem dX5_behind_0 : decode cX5_behind 0 = .ok (.iload_n 0, 1) := by decide +kernel
theorem dX5_behind_1 : decode cX5_behind 1 = .ok (.bipush 8, 2) := by decide +kernel
theorem dX5_behind_3 : decode cX5_behind 3 = .ok (.ishr, 1) := by decide +kernel
theorem dX5_behind_4 : decode cX5_behind 4 = .ok (.iconst 1, 1) := by decide +kernel
theorem dX5_behind_5 : decode cX5_behind 5 = .ok (.iconst 4, 1) := by decide +kernel
theorem dX5_behind_6 : decode cX5_behind 6 = .ok (.iload_n 1, 1) := by decide +kernel
theorem dX5_behind_7 : decode cX5_behind 7 = .ok (.imul, 1) := by decide +kernel
theorem dX5_behind_8 : decode cX5_behind 8 = .ok (.ishl, 1) := by decide +kernel
theorem dX5_behind_9 : decode cX5_behind 9 = .ok (.iconst 1, 1) := by decide +kernel
theorem dX5_behind_10 : decode cX5_behind 10 = .ok (.isub, 1) := by decide +kernel
theorem dX5_behind_11 : decode cX5_behind 11 = .ok (.iand, 1) := by decide +kernel
theorem dX5_behind_12 : decode cX5_behind 12 = .ok (.ireturn, 1) := by decide +kernel
theorem dX5_ends_0 : decode cX5_ends 0 = .ok (.aload_n 0, 1) := by decide +kernel
theorem dX5_ends_1 : decode cX5_ends 1 = .ok (.iload_n 1, 1) := by decide +kernel
theorem dX5_ends_2 : decode cX5_ends 2 = .ok (.iload_n 3, 1) := by decide +kernel
theorem dX5_ends_3 : decode cX5_ends 3 = .ok (.iload_n 2, 1) := by decide +kernel
theorem dX5_ends_4 : decode cX5_ends 4 = .ok (.invokestatic 84, 3) := by decide +kernel
theorem dX5_ends_7 : decode cX5_ends 7 = .ok (.iadd, 1) := by decide +kernel
theorem dX5_ends_8 : decode cX5_ends 8 = .ok (.invokevirtual 88, 3) := by decide +kernel
theorem dX5_ends_11 : decode cX5_ends 11 = .ok (.istore 4, 2) := by decide +kernel
theorem dX5_ends_13 : decode cX5_ends 13 = .ok (.iload 4, 2) := by decide +kernel
theorem dX5_ends_15 : decode cX5_ends 15 = .ok (.ifCond .ge 14, 3) := by decide +kernel
theorem dX5_ends_18 : decode cX5_ends 18 = .ok (.aload_n 0, 1) := by decide +kernel
theorem dX5_ends_19 : decode cX5_ends 19 = .ok (.bipush 6, 2) := by decide +kernel
theorem dX5_ends_21 : decode cX5_ends 21 = .ok (.aload_n 0, 1) := by decide +kernel
theorem dX5_ends_22 : decode cX5_ends 22 = .ok (.getfield 52, 3) := by decide +kernel
theorem dX5_ends_25 : decode cX5_ends 25 = .ok (.invokevirtual 92, 3) := by decide +kernel
theorem dX5_ends_28 : decode cX5_ends 28 = .ok (.ireturn, 1) := by decide +kernel
theorem dX5_ends_29 : decode cX5_ends 29 = .ok (.aload_n 0, 1) := by decide +kernel
theorem dX5_ends_30 : decode cX5_ends 30 = .ok (.sipush 256, 3) := by decide +kernel
theorem dX5_ends_33 : decode cX5_ends 33 = .ok (.iload 4, 2) := by decide +kernel
theorem dX5_ends_35 : decode cX5_ends 35 = .ok (.imul, 1) := by decide +kernel
theorem dX5_ends_36 : decode cX5_ends 36 = .ok (.iload_n 3, 1) := by decide +kernel
theorem dX5_ends_37 : decode cX5_ends 37 = .ok (.sipush 255, 3) := by decide +kernel
theorem dX5_ends_40 : decode cX5_ends 40 = .ok (.iand, 1) := by decide +kernel
theorem dX5_ends_41 : decode cX5_ends 41 = .ok (.iadd, 1) := by decide +kernel
theorem dX5_ends_42 : decode cX5_ends 42 = .ok (.putfield 95, 3) := by decide +kernel
theorem dX5_ends_45 : decode cX5_ends 45 = .ok (.iconst 1, 1) := by decide +kernel
theorem dX5_ends_46 : decode cX5_ends 46 = .ok (.ireturn, 1) := by decide +kernel
theorem dX5_goes_0 : decode cX5_goes 0 = .ok (.aload_n 0, 1) := by decide +kernel
theorem dX5_goes_1 : decode cX5_goes 1 = .ok (.iconst (-1), 1) := by decide +kernel
theorem dX5_goes_2 : decode cX5_goes 2 = .ok (.putfield 98, 3) := by decide +kernel
theorem dX5_goes_5 : decode cX5_goes 5 = .ok (.aload_n 0, 1) := by decide +kernel
theorem dX5_goes_6 : decode cX5_goes 6 = .ok (.iload_n 1, 1) := by decide +kernel
theorem dX5_goes_7 : decode cX5_goes 7 = .ok (.invokevirtual 88, 3) := by decide +kernel
theorem dX5_goes_10 : decode cX5_goes 10 = .ok (.istore 5, 2) := by decide +kernel
theorem dX5_goes_12 : decode cX5_goes 12 = .ok (.iload 5, 2) := by decide +kernel
theorem dX5_goes_14 : decode cX5_goes 14 = .ok (.ifCond .ge 11, 3) := by decide +kernel
theorem dX5_goes_17 : decode cX5_goes 17 = .ok (.aload_n 0, 1) := by decide +kernel
theorem dX5_goes_18 : decode cX5_goes 18 = .ok (.bipush 6, 2) := by decide +kernel
theorem dX5_goes_20 : decode cX5_goes 20 = .ok (.iload_n 2, 1) := by decide +kernel
theorem dX5_goes_21 : decode cX5_goes 21 = .ok (.invokevirtual 92, 3) := by decide +kernel
theorem dX5_goes_24 : decode cX5_goes 24 = .ok (.ireturn, 1) := by decide +kernel
theorem dX5_goes_25 : decode cX5_goes 25 = .ok (.iload 5, 2) := by decide +kernel
theorem dX5_goes_27 : decode cX5_goes 27 = .ok (.sipush 256, 3) := by decide +kernel
theorem dX5_goes_30 : decode cX5_goes 30 = .ok (.if_icmp .lt 10, 3) := by decide +kernel
theorem dX5_goes_33 : decode cX5_goes 33 = .ok (.aload_n 0, 1) := by decide +kernel
theorem dX5_goes_34 : decode cX5_goes 34 = .ok (.iconst 5, 1) := by decide +kernel
theorem dX5_goes_35 : decode cX5_goes 35 = .ok (.iload_n 2, 1) := by decide +kernel
theorem dX5_goes_36 : decode cX5_goes 36 = .ok (.invokevirtual 92, 3) := by decide +kernel
theorem dX5_goes_39 : decode cX5_goes 39 = .ok (.ireturn, 1) := by decide +kernel
theorem dX5_goes_40 : decode cX5_goes 40 = .ok (.aload_n 0, 1) := by decide +kernel
theorem dX5_goes_41 : decode cX5_goes 41 = .ok (.getfield 52, 3) := by decide +kernel
theorem dX5_goes_44 : decode cX5_goes 44 = .ok (.iconst 1, 1) := by decide +kernel
theorem dX5_goes_45 : decode cX5_goes 45 = .ok (.isub, 1) := by decide +kernel
theorem dX5_goes_46 : decode cX5_goes 46 = .ok (.iload_n 2, 1) := by decide +kernel
theorem dX5_goes_47 : decode cX5_goes 47 = .ok (.isub, 1) := by decide +kernel
theorem dX5_goes_48 : decode cX5_goes 48 = .ok (.istore 6, 2) := by decide +kernel
theorem dX5_goes_50 : decode cX5_goes 50 = .ok (.bipush 16, 2) := by decide +kernel
theorem dX5_goes_52 : decode cX5_goes 52 = .ok (.iload 5, 2) := by decide +kernel
theorem dX5_goes_54 : decode cX5_goes 54 = .ok (.imul, 1) := by decide +kernel
theorem dX5_goes_55 : decode cX5_goes 55 = .ok (.iload_n 3, 1) := by decide +kernel
theorem dX5_goes_56 : decode cX5_goes 56 = .ok (.bipush 8, 2) := by decide +kernel
theorem dX5_goes_58 : decode cX5_goes 58 = .ok (.iconst 4, 1) := by decide +kernel
theorem dX5_goes_59 : decode cX5_goes 59 = .ok (.iload 6, 2) := by decide +kernel
theorem dX5_goes_61 : decode cX5_goes 61 = .ok (.imul, 1) := by decide +kernel
theorem dX5_goes_62 : decode cX5_goes 62 = .ok (.iadd, 1) := by decide +kernel
theorem dX5_goes_63 : decode cX5_goes 63 = .ok (.ishr, 1) := by decide +kernel
theorem dX5_goes_64 : decode cX5_goes 64 = .ok (.bipush 15, 2) := by decide +kernel
theorem dX5_goes_66 : decode cX5_goes 66 = .ok (.iand, 1) := by decide +kernel
theorem dX5_goes_67 : decode cX5_goes 67 = .ok (.iadd, 1) := by decide +kernel
theorem dX5_goes_68 : decode cX5_goes 68 = .ok (.istore 7, 2) := by decide +kernel
theorem dX5_goes_70 : decode cX5_goes 70 = .ok (.aload_n 0, 1) := by decide +kernel
theorem dX5_goes_71 : decode cX5_goes 71 = .ok (.getfield 49, 3) := by decide +kernel
theorem dX5_goes_74 : decode cX5_goes 74 = .ok (.aload_n 0, 1) := by decide +kernel
theorem dX5_goes_75 : decode cX5_goes 75 = .ok (.getfield 101, 3) := by decide +kernel
theorem dX5_goes_78 : decode cX5_goes 78 = .ok (.iload 7, 2) := by decide +kernel
theorem dX5_goes_80 : decode cX5_goes 80 = .ok (.iastore, 1) := by decide +kernel
theorem dX5_goes_81 : decode cX5_goes 81 = .ok (.aload_n 0, 1) := by decide +kernel
theorem dX5_goes_82 : decode cX5_goes 82 = .ok (.dup, 1) := by decide +kernel
theorem dX5_goes_83 : decode cX5_goes 83 = .ok (.getfield 101, 3) := by decide +kernel
theorem dX5_goes_86 : decode cX5_goes 86 = .ok (.iconst 1, 1) := by decide +kernel
theorem dX5_goes_87 : decode cX5_goes 87 = .ok (.iadd, 1) := by decide +kernel
theorem dX5_goes_88 : decode cX5_goes 88 = .ok (.putfield 101, 3) := by decide +kernel
theorem dX5_goes_91 : decode cX5_goes 91 = .ok (.aload_n 0, 1) := by decide +kernel
theorem dX5_goes_92 : decode cX5_goes 92 = .ok (.getfield 7, 3) := by decide +kernel
theorem dX5_goes_95 : decode cX5_goes 95 = .ok (.iload 7, 2) := by decide +kernel
theorem dX5_goes_97 : decode cX5_goes 97 = .ok (.laload, 1) := by decide +kernel
theorem dX5_goes_98 : decode cX5_goes 98 = .ok (.lstore 8, 2) := by decide +kernel
theorem dX5_goes_100 : decode cX5_goes 100 = .ok (.lload 8, 2) := by decide +kernel
theorem dX5_goes_102 : decode cX5_goes 102 = .ok (.lconst 1, 1) := by decide +kernel
theorem dX5_goes_103 : decode cX5_goes 103 = .ok (.land, 1) := by decide +kernel
theorem dX5_goes_104 : decode cX5_goes 104 = .ok (.lconst 0, 1) := by decide +kernel
theorem dX5_goes_105 : decode cX5_goes 105 = .ok (.lcmp, 1) := by decide +kernel
theorem dX5_goes_106 : decode cX5_goes 106 = .ok (.ifCond .ne 10, 3) := by decide +kernel
theorem dX5_goes_109 : decode cX5_goes 109 = .ok (.aload_n 0, 1) := by decide +kernel
theorem dX5_goes_110 : decode cX5_goes 110 = .ok (.iconst 2, 1) := by decide +kernel
theorem dX5_goes_111 : decode cX5_goes 111 = .ok (.iload_n 2, 1) := by decide +kernel
theorem dX5_goes_112 : decode cX5_goes 112 = .ok (.invokevirtual 92, 3) := by decide +kernel
theorem dX5_goes_115 : decode cX5_goes 115 = .ok (.ireturn, 1) := by decide +kernel
theorem dX5_goes_116 : decode cX5_goes 116 = .ok (.lload 8, 2) := by decide +kernel
theorem dX5_goes_118 : decode cX5_goes 118 = .ok (.ldc2_w 104, 3) := by decide +kernel
theorem dX5_goes_121 : decode cX5_goes 121 = .ok (.land, 1) := by decide +kernel
theorem dX5_goes_122 : decode cX5_goes 122 = .ok (.lconst 0, 1) := by decide +kernel
theorem dX5_goes_123 : decode cX5_goes 123 = .ok (.lcmp, 1) := by decide +kernel
theorem dX5_goes_124 : decode cX5_goes 124 = .ok (.ifCond .eq 12, 3) := by decide +kernel
theorem dX5_goes_127 : decode cX5_goes 127 = .ok (.iload 6, 2) := by decide +kernel
theorem dX5_goes_129 : decode cX5_goes 129 = .ok (.ifCond .le 7, 3) := by decide +kernel
theorem dX5_goes_132 : decode cX5_goes 132 = .ok (.iconst 1, 1) := by decide +kernel
theorem dX5_goes_133 : decode cX5_goes 133 = .ok (.goto 4, 3) := by decide +kernel
theorem dX5_goes_136 : decode cX5_goes 136 = .ok (.iconst 0, 1) := by decide +kernel
theorem dX5_goes_137 : decode cX5_goes 137 = .ok (.istore 10, 2) := by decide +kernel
theorem dX5_goes_139 : decode cX5_goes 139 = .ok (.iload 6, 2) := by decide +kernel
theorem dX5_goes_141 : decode cX5_goes 141 = .ok (.ifCond .le 10, 3) := by decide +kernel
theorem dX5_goes_144 : decode cX5_goes 144 = .ok (.iload 10, 2) := by decide +kernel
theorem dX5_goes_146 : decode cX5_goes 146 = .ok (.ifCond .ne 5, 3) := by decide +kernel
theorem dX5_goes_149 : decode cX5_goes 149 = .ok (.iconst 1, 1) := by decide +kernel
theorem dX5_goes_150 : decode cX5_goes 150 = .ok (.ireturn, 1) := by decide +kernel
theorem dX5_goes_151 : decode cX5_goes 151 = .ok (.iload 10, 2) := by decide +kernel
theorem dX5_goes_153 : decode cX5_goes 153 = .ok (.ifCond .eq 25, 3) := by decide +kernel
theorem dX5_goes_156 : decode cX5_goes 156 = .ok (.lload 8, 2) := by decide +kernel
theorem dX5_goes_158 : decode cX5_goes 158 = .ok (.invokestatic 106, 3) := by decide +kernel
theorem dX5_goes_161 : decode cX5_goes 161 = .ok (.iconst 1, 1) := by decide +kernel
theorem dX5_goes_162 : decode cX5_goes 162 = .ok (.iconst 4, 1) := by decide +kernel
theorem dX5_goes_163 : decode cX5_goes 163 = .ok (.iload 6, 2) := by decide +kernel
theorem dX5_goes_165 : decode cX5_goes 165 = .ok (.imul, 1) := by decide +kernel
theorem dX5_goes_166 : decode cX5_goes 166 = .ok (.ishl, 1) := by decide +kernel
theorem dX5_goes_167 : decode cX5_goes 167 = .ok (.irem, 1) := by decide +kernel
theorem dX5_goes_168 : decode cX5_goes 168 = .ok (.ifCond .eq 10, 3) := by decide +kernel
theorem dX5_goes_171 : decode cX5_goes 171 = .ok (.aload_n 0, 1) := by decide +kernel
theorem dX5_goes_172 : decode cX5_goes 172 = .ok (.iconst 4, 1) := by decide +kernel
theorem dX5_goes_173 : decode cX5_goes 173 = .ok (.iload_n 2, 1) := by decide +kernel
theorem dX5_goes_174 : decode cX5_goes 174 = .ok (.invokevirtual 92, 3) := by decide +kernel
theorem dX5_goes_177 : decode cX5_goes 177 = .ok (.ireturn, 1) := by decide +kernel
theorem dX5_goes_178 : decode cX5_goes 178 = .ok (.lload 8, 2) := by decide +kernel
theorem dX5_goes_180 : decode cX5_goes 180 = .ok (.invokestatic 110, 3) := by decide +kernel
theorem dX5_goes_183 : decode cX5_goes 183 = .ok (.iload 4, 2) := by decide +kernel
theorem dX5_goes_185 : decode cX5_goes 185 = .ok (.invokestatic 113, 3) := by decide +kernel
theorem dX5_goes_188 : decode cX5_goes 188 = .ok (.ifCond .ne 10, 3) := by decide +kernel
theorem dX5_goes_191 : decode cX5_goes 191 = .ok (.aload_n 0, 1) := by decide +kernel
theorem dX5_goes_192 : decode cX5_goes 192 = .ok (.iconst 3, 1) := by decide +kernel
theorem dX5_goes_193 : decode cX5_goes 193 = .ok (.iload_n 2, 1) := by decide +kernel
theorem dX5_goes_194 : decode cX5_goes 194 = .ok (.invokevirtual 92, 3) := by decide +kernel
theorem dX5_goes_197 : decode cX5_goes 197 = .ok (.ireturn, 1) := by decide +kernel
theorem dX5_goes_198 : decode cX5_goes 198 = .ok (.aload_n 0, 1) := by decide +kernel
theorem dX5_goes_199 : decode cX5_goes 199 = .ok (.iload 6, 2) := by decide +kernel
theorem dX5_goes_201 : decode cX5_goes 201 = .ok (.putfield 98, 3) := by decide +kernel
theorem dX5_goes_204 : decode cX5_goes 204 = .ok (.iconst 1, 1) := by decide +kernel
theorem dX5_goes_205 : decode cX5_goes 205 = .ok (.ireturn, 1) := by decide +kernel
theorem dX5_walks_0 : decode cX5_walks 0 = .ok (.aload_n 0, 1) := by decide +kernel
theorem dX5_walks_1 : decode cX5_walks 1 = .ok (.iconst 0, 1) := by decide +kernel
theorem dX5_walks_2 : decode cX5_walks 2 = .ok (.putfield 78, 3) := by decide +kernel
theorem dX5_walks_5 : decode cX5_walks 5 = .ok (.aload_n 0, 1) := by decide +kernel
theorem dX5_walks_6 : decode cX5_walks 6 = .ok (.iconst 0, 1) := by decide +kernel
theorem dX5_walks_7 : decode cX5_walks 7 = .ok (.putfield 101, 3) := by decide +kernel
theorem dX5_walks_10 : decode cX5_walks 10 = .ok (.aload_n 0, 1) := by decide +kernel
theorem dX5_walks_11 : decode cX5_walks 11 = .ok (.iload_n 1, 1) := by decide +kernel
theorem dX5_walks_12 : decode cX5_walks 12 = .ok (.invokevirtual 116, 3) := by decide +kernel
theorem dX5_walks_15 : decode cX5_walks 15 = .ok (.ifCond .eq 10, 3) := by decide +kernel
theorem dX5_walks_18 : decode cX5_walks 18 = .ok (.aload_n 0, 1) := by decide +kernel
theorem dX5_walks_19 : decode cX5_walks 19 = .ok (.iconst 1, 1) := by decide +kernel
theorem dX5_walks_20 : decode cX5_walks 20 = .ok (.iconst 0, 1) := by decide +kernel
theorem dX5_walks_21 : decode cX5_walks 21 = .ok (.invokevirtual 92, 3) := by decide +kernel
theorem dX5_walks_24 : decode cX5_walks 24 = .ok (.ireturn, 1) := by decide +kernel
theorem dX5_walks_25 : decode cX5_walks 25 = .ok (.aload_n 0, 1) := by decide +kernel
theorem dX5_walks_26 : decode cX5_walks 26 = .ok (.getfield 13, 3) := by decide +kernel
theorem dX5_walks_29 : decode cX5_walks 29 = .ok (.aload_n 0, 1) := by decide +kernel
theorem dX5_walks_30 : decode cX5_walks 30 = .ok (.getfield 69, 3) := by decide +kernel
theorem dX5_walks_33 : decode cX5_walks 33 = .ok (.iaload, 1) := by decide +kernel
theorem dX5_walks_34 : decode cX5_walks 34 = .ok (.istore_n 3, 1) := by decide +kernel
theorem dX5_walks_35 : decode cX5_walks 35 = .ok (.iconst 0, 1) := by decide +kernel
theorem dX5_walks_36 : decode cX5_walks 36 = .ok (.istore 4, 2) := by decide +kernel
theorem dX5_walks_38 : decode cX5_walks 38 = .ok (.iload 4, 2) := by decide +kernel
theorem dX5_walks_40 : decode cX5_walks 40 = .ok (.aload_n 0, 1) := by decide +kernel
theorem dX5_walks_41 : decode cX5_walks 41 = .ok (.getfield 52, 3) := by decide +kernel
theorem dX5_walks_44 : decode cX5_walks 44 = .ok (.if_icmp .ge 61, 3) := by decide +kernel
theorem dX5_walks_47 : decode cX5_walks 47 = .ok (.aload_n 0, 1) := by decide +kernel
theorem dX5_walks_48 : decode cX5_walks 48 = .ok (.iload_n 3, 1) := by decide +kernel
theorem dX5_walks_49 : decode cX5_walks 49 = .ok (.iload 4, 2) := by decide +kernel
theorem dX5_walks_51 : decode cX5_walks 51 = .ok (.iload_n 1, 1) := by decide +kernel
theorem dX5_walks_52 : decode cX5_walks 52 = .ok (.iload_n 2, 1) := by decide +kernel
theorem dX5_walks_53 : decode cX5_walks 53 = .ok (.invokevirtual 120, 3) := by decide +kernel
theorem dX5_walks_56 : decode cX5_walks 56 = .ok (.ifCond .ne 5, 3) := by decide +kernel
theorem dX5_walks_59 : decode cX5_walks 59 = .ok (.iconst 0, 1) := by decide +kernel
theorem dX5_walks_60 : decode cX5_walks 60 = .ok (.ireturn, 1) := by decide +kernel
theorem dX5_walks_61 : decode cX5_walks 61 = .ok (.aload_n 0, 1) := by decide +kernel
theorem dX5_walks_62 : decode cX5_walks 62 = .ok (.getfield 7, 3) := by decide +kernel
theorem dX5_walks_65 : decode cX5_walks 65 = .ok (.aload_n 0, 1) := by decide +kernel
theorem dX5_walks_66 : decode cX5_walks 66 = .ok (.getfield 49, 3) := by decide +kernel
theorem dX5_walks_69 : decode cX5_walks 69 = .ok (.aload_n 0, 1) := by decide +kernel
theorem dX5_walks_70 : decode cX5_walks 70 = .ok (.getfield 101, 3) := by decide +kernel
theorem dX5_walks_73 : decode cX5_walks 73 = .ok (.iconst 1, 1) := by decide +kernel
theorem dX5_walks_74 : decode cX5_walks 74 = .ok (.isub, 1) := by decide +kernel
theorem dX5_walks_75 : decode cX5_walks 75 = .ok (.iaload, 1) := by decide +kernel
theorem dX5_walks_76 : decode cX5_walks 76 = .ok (.laload, 1) := by decide +kernel
theorem dX5_walks_77 : decode cX5_walks 77 = .ok (.invokestatic 106, 3) := by decide +kernel
theorem dX5_walks_80 : decode cX5_walks 80 = .ok (.istore_n 3, 1) := by decide +kernel
theorem dX5_walks_81 : decode cX5_walks 81 = .ok (.aload_n 0, 1) := by decide +kernel
theorem dX5_walks_82 : decode cX5_walks 82 = .ok (.getfield 98, 3) := by decide +kernel
theorem dX5_walks_85 : decode cX5_walks 85 = .ok (.ifCond .lt 14, 3) := by decide +kernel
theorem dX5_walks_88 : decode cX5_walks 88 = .ok (.aload_n 0, 1) := by decide +kernel
theorem dX5_walks_89 : decode cX5_walks 89 = .ok (.iload_n 3, 1) := by decide +kernel
theorem dX5_walks_90 : decode cX5_walks 90 = .ok (.aload_n 0, 1) := by decide +kernel
theorem dX5_walks_91 : decode cX5_walks 91 = .ok (.getfield 98, 3) := by decide +kernel
theorem dX5_walks_94 : decode cX5_walks 94 = .ok (.iload_n 1, 1) := by decide +kernel
theorem dX5_walks_95 : decode cX5_walks 95 = .ok (.invokevirtual 124, 3) := by decide +kernel
theorem dX5_walks_98 : decode cX5_walks 98 = .ok (.ireturn, 1) := by decide +kernel
theorem dX5_walks_99 : decode cX5_walks 99 = .ok (.iinc 4 1, 3) := by decide +kernel
theorem dX5_walks_102 : decode cX5_walks 102 = .ok (.goto (-64), 3) := by decide +kernel
theorem dX5_walks_105 : decode cX5_walks 105 = .ok (.iconst 0, 1) := by decide +kernel
theorem dX5_walks_106 : decode cX5_walks 106 = .ok (.ireturn, 1) := by decide +kernel
theorem dX5_fits_0 : decode cX5_fits 0 = .ok (.aload_n 0, 1) := by decide +kernel
theorem dX5_fits_1 : decode cX5_fits 1 = .ok (.getfield 20, 3) := by decide +kernel
theorem dX5_fits_4 : decode cX5_fits 4 = .ok (.iload_n 1, 1) := by decide +kernel
theorem dX5_fits_5 : decode cX5_fits 5 = .ok (.iaload, 1) := by decide +kernel
theorem dX5_fits_6 : decode cX5_fits 6 = .ok (.aload_n 0, 1) := by decide +kernel
theorem dX5_fits_7 : decode cX5_fits 7 = .ok (.getfield 69, 3) := by decide +kernel
theorem dX5_fits_10 : decode cX5_fits 10 = .ok (.if_icmp .ne 29, 3) := by decide +kernel
theorem dX5_fits_13 : decode cX5_fits 13 = .ok (.iload_n 2, 1) := by decide +kernel
theorem dX5_fits_14 : decode cX5_fits 14 = .ok (.bipush 8, 2) := by decide +kernel
theorem dX5_fits_16 : decode cX5_fits 16 = .ok (.iconst 4, 1) := by decide +kernel
theorem dX5_fits_17 : decode cX5_fits 17 = .ok (.aload_n 0, 1) := by decide +kernel
theorem dX5_fits_18 : decode cX5_fits 18 = .ok (.getfield 23, 3) := by decide +kernel
theorem dX5_fits_21 : decode cX5_fits 21 = .ok (.iload_n 1, 1) := by decide +kernel
theorem dX5_fits_22 : decode cX5_fits 22 = .ok (.iaload, 1) := by decide +kernel
theorem dX5_fits_23 : decode cX5_fits 23 = .ok (.imul, 1) := by decide +kernel
theorem dX5_fits_24 : decode cX5_fits 24 = .ok (.iadd, 1) := by decide +kernel
theorem dX5_fits_25 : decode cX5_fits 25 = .ok (.ishr, 1) := by decide +kernel
theorem dX5_fits_26 : decode cX5_fits 26 = .ok (.aload_n 0, 1) := by decide +kernel
theorem dX5_fits_27 : decode cX5_fits 27 = .ok (.getfield 26, 3) := by decide +kernel
theorem dX5_fits_30 : decode cX5_fits 30 = .ok (.iload_n 1, 1) := by decide +kernel
theorem dX5_fits_31 : decode cX5_fits 31 = .ok (.iaload, 1) := by decide +kernel
theorem dX5_fits_32 : decode cX5_fits 32 = .ok (.if_icmp .ne 7, 3) := by decide +kernel
theorem dX5_fits_35 : decode cX5_fits 35 = .ok (.iconst 1, 1) := by decide +kernel
theorem dX5_fits_36 : decode cX5_fits 36 = .ok (.goto 4, 3) := by decide +kernel
theorem dX5_fits_39 : decode cX5_fits 39 = .ok (.iconst 0, 1) := by decide +kernel
theorem dX5_fits_40 : decode cX5_fits 40 = .ok (.ireturn, 1) := by decide +kernel
theorem dX5_entryFor_0 : decode cX5_entryFor 0 = .ok (.iconst (-1), 1) := by decide +kernel
theorem dX5_entryFor_1 : decode cX5_entryFor 1 = .ok (.istore_n 2, 1) := by decide +kernel
theorem dX5_entryFor_2 : decode cX5_entryFor 2 = .ok (.iconst 0, 1) := by decide +kernel
theorem dX5_entryFor_3 : decode cX5_entryFor 3 = .ok (.istore_n 3, 1) := by decide +kernel
theorem dX5_entryFor_4 : decode cX5_entryFor 4 = .ok (.iload_n 3, 1) := by decide +kernel
theorem dX5_entryFor_5 : decode cX5_entryFor 5 = .ok (.aload_n 0, 1) := by decide +kernel
theorem dX5_entryFor_6 : decode cX5_entryFor 6 = .ok (.getfield 128, 3) := by decide +kernel
theorem dX5_entryFor_9 : decode cX5_entryFor 9 = .ok (.if_icmp .ge 39, 3) := by decide +kernel
theorem dX5_entryFor_12 : decode cX5_entryFor 12 = .ok (.aload_n 0, 1) := by decide +kernel
theorem dX5_entryFor_13 : decode cX5_entryFor 13 = .ok (.iload_n 3, 1) := by decide +kernel
theorem dX5_entryFor_14 : decode cX5_entryFor 14 = .ok (.iload_n 1, 1) := by decide +kernel
theorem dX5_entryFor_15 : decode cX5_entryFor 15 = .ok (.invokevirtual 131, 3) := by decide +kernel
theorem dX5_entryFor_18 : decode cX5_entryFor 18 = .ok (.ifCond .eq 24, 3) := by decide +kernel
theorem dX5_entryFor_21 : decode cX5_entryFor 21 = .ok (.iload_n 2, 1) := by decide +kernel
theorem dX5_entryFor_22 : decode cX5_entryFor 22 = .ok (.ifCond .lt 18, 3) := by decide +kernel
theorem dX5_entryFor_25 : decode cX5_entryFor 25 = .ok (.aload_n 0, 1) := by decide +kernel
theorem dX5_entryFor_26 : decode cX5_entryFor 26 = .ok (.getfield 35, 3) := by decide +kernel
theorem dX5_entryFor_29 : decode cX5_entryFor 29 = .ok (.iload_n 3, 1) := by decide +kernel
theorem dX5_entryFor_30 : decode cX5_entryFor 30 = .ok (.iaload, 1) := by decide +kernel
theorem dX5_entryFor_31 : decode cX5_entryFor 31 = .ok (.aload_n 0, 1) := by decide +kernel
theorem dX5_entryFor_32 : decode cX5_entryFor 32 = .ok (.getfield 35, 3) := by decide +kernel
theorem dX5_entryFor_35 : decode cX5_entryFor 35 = .ok (.iload_n 2, 1) := by decide +kernel
theorem dX5_entryFor_36 : decode cX5_entryFor 36 = .ok (.iaload, 1) := by decide +kernel
theorem dX5_entryFor_37 : decode cX5_entryFor 37 = .ok (.if_icmp .le 5, 3) := by decide +kernel
theorem dX5_entryFor_40 : decode cX5_entryFor 40 = .ok (.iload_n 3, 1) := by decide +kernel
theorem dX5_entryFor_41 : decode cX5_entryFor 41 = .ok (.istore_n 2, 1) := by decide +kernel
theorem dX5_entryFor_42 : decode cX5_entryFor 42 = .ok (.iinc 3 1, 3) := by decide +kernel
theorem dX5_entryFor_45 : decode cX5_entryFor 45 = .ok (.goto (-41), 3) := by decide +kernel
theorem dX5_entryFor_48 : decode cX5_entryFor 48 = .ok (.iload_n 2, 1) := by decide +kernel
theorem dX5_entryFor_49 : decode cX5_entryFor 49 = .ok (.ireturn, 1) := by decide +kernel
theorem dX5_use_0 : decode cX5_use 0 = .ok (.aload_n 0, 1) := by decide +kernel
theorem dX5_use_1 : decode cX5_use 1 = .ok (.dup, 1) := by decide +kernel
theorem dX5_use_2 : decode cX5_use 2 = .ok (.getfield 134, 3) := by decide +kernel
theorem dX5_use_5 : decode cX5_use 5 = .ok (.iconst 1, 1) := by decide +kernel
theorem dX5_use_6 : decode cX5_use 6 = .ok (.iadd, 1) := by decide +kernel
theorem dX5_use_7 : decode cX5_use 7 = .ok (.putfield 134, 3) := by decide +kernel
theorem dX5_use_10 : decode cX5_use 10 = .ok (.aload_n 0, 1) := by decide +kernel
theorem dX5_use_11 : decode cX5_use 11 = .ok (.getfield 35, 3) := by decide +kernel
theorem dX5_use_14 : decode cX5_use 14 = .ok (.iload_n 1, 1) := by decide +kernel
theorem dX5_use_15 : decode cX5_use 15 = .ok (.aload_n 0, 1) := by decide +kernel
theorem dX5_use_16 : decode cX5_use 16 = .ok (.getfield 134, 3) := by decide +kernel
theorem dX5_use_19 : decode cX5_use 19 = .ok (.iastore, 1) := by decide +kernel
theorem dX5_use_20 : decode cX5_use 20 = .ok (.return_, 1) := by decide +kernel
theorem dX5_drop_0 : decode cX5_drop 0 = .ok (.aload_n 0, 1) := by decide +kernel
theorem dX5_drop_1 : decode cX5_drop 1 = .ok (.dup, 1) := by decide +kernel
theorem dX5_drop_2 : decode cX5_drop 2 = .ok (.getfield 128, 3) := by decide +kernel
theorem dX5_drop_5 : decode cX5_drop 5 = .ok (.iconst 1, 1) := by decide +kernel
theorem dX5_drop_6 : decode cX5_drop 6 = .ok (.isub, 1) := by decide +kernel
theorem dX5_drop_7 : decode cX5_drop 7 = .ok (.putfield 128, 3) := by decide +kernel
theorem dX5_drop_10 : decode cX5_drop 10 = .ok (.aload_n 0, 1) := by decide +kernel
theorem dX5_drop_11 : decode cX5_drop 11 = .ok (.getfield 20, 3) := by decide +kernel
theorem dX5_drop_14 : decode cX5_drop 14 = .ok (.iload_n 1, 1) := by decide +kernel
theorem dX5_drop_15 : decode cX5_drop 15 = .ok (.aload_n 0, 1) := by decide +kernel
theorem dX5_drop_16 : decode cX5_drop 16 = .ok (.getfield 20, 3) := by decide +kernel
theorem dX5_drop_19 : decode cX5_drop 19 = .ok (.aload_n 0, 1) := by decide +kernel
theorem dX5_drop_20 : decode cX5_drop 20 = .ok (.getfield 128, 3) := by decide +kernel
theorem dX5_drop_23 : decode cX5_drop 23 = .ok (.iaload, 1) := by decide +kernel
theorem dX5_drop_24 : decode cX5_drop 24 = .ok (.iastore, 1) := by decide +kernel
theorem dX5_drop_25 : decode cX5_drop 25 = .ok (.aload_n 0, 1) := by decide +kernel
theorem dX5_drop_26 : decode cX5_drop 26 = .ok (.getfield 23, 3) := by decide +kernel
theorem dX5_drop_29 : decode cX5_drop 29 = .ok (.iload_n 1, 1) := by decide +kernel
theorem dX5_drop_30 : decode cX5_drop 30 = .ok (.aload_n 0, 1) := by decide +kernel
theorem dX5_drop_31 : decode cX5_drop 31 = .ok (.getfield 23, 3) := by decide +kernel
theorem dX5_drop_34 : decode cX5_drop 34 = .ok (.aload_n 0, 1) := by decide +kernel
theorem dX5_drop_35 : decode cX5_drop 35 = .ok (.getfield 128, 3) := by decide +kernel
theorem dX5_drop_38 : decode cX5_drop 38 = .ok (.iaload, 1) := by decide +kernel
theorem dX5_drop_39 : decode cX5_drop 39 = .ok (.iastore, 1) := by decide +kernel
theorem dX5_drop_40 : decode cX5_drop 40 = .ok (.aload_n 0, 1) := by decide +kernel
theorem dX5_drop_41 : decode cX5_drop 41 = .ok (.getfield 26, 3) := by decide +kernel
theorem dX5_drop_44 : decode cX5_drop 44 = .ok (.iload_n 1, 1) := by decide +kernel
theorem dX5_drop_45 : decode cX5_drop 45 = .ok (.aload_n 0, 1) := by decide +kernel
theorem dX5_drop_46 : decode cX5_drop 46 = .ok (.getfield 26, 3) := by decide +kernel
theorem dX5_drop_49 : decode cX5_drop 49 = .ok (.aload_n 0, 1) := by decide +kernel
theorem dX5_drop_50 : decode cX5_drop 50 = .ok (.getfield 128, 3) := by decide +kernel
theorem dX5_drop_53 : decode cX5_drop 53 = .ok (.iaload, 1) := by decide +kernel
theorem dX5_drop_54 : decode cX5_drop 54 = .ok (.iastore, 1) := by decide +kernel
theorem dX5_drop_55 : decode cX5_drop 55 = .ok (.aload_n 0, 1) := by decide +kernel
theorem dX5_drop_56 : decode cX5_drop 56 = .ok (.getfield 29, 3) := by decide +kernel
theorem dX5_drop_59 : decode cX5_drop 59 = .ok (.iload_n 1, 1) := by decide +kernel
theorem dX5_drop_60 : decode cX5_drop 60 = .ok (.aload_n 0, 1) := by decide +kernel
theorem dX5_drop_61 : decode cX5_drop 61 = .ok (.getfield 29, 3) := by decide +kernel
theorem dX5_drop_64 : decode cX5_drop 64 = .ok (.aload_n 0, 1) := by decide +kernel
theorem dX5_drop_65 : decode cX5_drop 65 = .ok (.getfield 128, 3) := by decide +kernel
theorem dX5_drop_68 : decode cX5_drop 68 = .ok (.iaload, 1) := by decide +kernel
theorem dX5_drop_69 : decode cX5_drop 69 = .ok (.iastore, 1) := by decide +kernel
theorem dX5_drop_70 : decode cX5_drop 70 = .ok (.aload_n 0, 1) := by decide +kernel
theorem dX5_drop_71 : decode cX5_drop 71 = .ok (.getfield 32, 3) := by decide +kernel
theorem dX5_drop_74 : decode cX5_drop 74 = .ok (.iload_n 1, 1) := by decide +kernel
theorem dX5_drop_75 : decode cX5_drop 75 = .ok (.aload_n 0, 1) := by decide +kernel
theorem dX5_drop_76 : decode cX5_drop 76 = .ok (.getfield 32, 3) := by decide +kernel
theorem dX5_drop_79 : decode cX5_drop 79 = .ok (.aload_n 0, 1) := by decide +kernel
theorem dX5_drop_80 : decode cX5_drop 80 = .ok (.getfield 128, 3) := by decide +kernel
theorem dX5_drop_83 : decode cX5_drop 83 = .ok (.iaload, 1) := by decide +kernel
theorem dX5_drop_84 : decode cX5_drop 84 = .ok (.iastore, 1) := by decide +kernel
theorem dX5_drop_85 : decode cX5_drop 85 = .ok (.aload_n 0, 1) := by decide +kernel
theorem dX5_drop_86 : decode cX5_drop 86 = .ok (.getfield 35, 3) := by decide +kernel
theorem dX5_drop_89 : decode cX5_drop 89 = .ok (.iload_n 1, 1) := by decide +kernel
theorem dX5_drop_90 : decode cX5_drop 90 = .ok (.aload_n 0, 1) := by decide +kernel
theorem dX5_drop_91 : decode cX5_drop 91 = .ok (.getfield 35, 3) := by decide +kernel
theorem dX5_drop_94 : decode cX5_drop 94 = .ok (.aload_n 0, 1) := by decide +kernel
theorem dX5_drop_95 : decode cX5_drop 95 = .ok (.getfield 128, 3) := by decide +kernel
theorem dX5_drop_98 : decode cX5_drop 98 = .ok (.iaload, 1) := by decide +kernel
theorem dX5_drop_99 : decode cX5_drop 99 = .ok (.iastore, 1) := by decide +kernel
theorem dX5_drop_100 : decode cX5_drop 100 = .ok (.aload_n 0, 1) := by decide +kernel
theorem dX5_drop_101 : decode cX5_drop 101 = .ok (.getfield 38, 3) := by decide +kernel
theorem dX5_drop_104 : decode cX5_drop 104 = .ok (.iload_n 1, 1) := by decide +kernel
theorem dX5_drop_105 : decode cX5_drop 105 = .ok (.aload_n 0, 1) := by decide +kernel
theorem dX5_drop_106 : decode cX5_drop 106 = .ok (.getfield 38, 3) := by decide +kernel
theorem dX5_drop_109 : decode cX5_drop 109 = .ok (.aload_n 0, 1) := by decide +kernel
theorem dX5_drop_110 : decode cX5_drop 110 = .ok (.getfield 128, 3) := by decide +kernel
theorem dX5_drop_113 : decode cX5_drop 113 = .ok (.baload, 1) := by decide +kernel
theorem dX5_drop_114 : decode cX5_drop 114 = .ok (.bastore, 1) := by decide +kernel
theorem dX5_drop_115 : decode cX5_drop 115 = .ok (.return_, 1) := by decide +kernel
theorem dX5_keep_0 : decode cX5_keep 0 = .ok (.iload_n 1, 1) := by decide +kernel
theorem dX5_keep_1 : decode cX5_keep 1 = .ok (.bipush 8, 2) := by decide +kernel
theorem dX5_keep_3 : decode cX5_keep 3 = .ok (.iconst 4, 1) := by decide +kernel
theorem dX5_keep_4 : decode cX5_keep 4 = .ok (.aload_n 0, 1) := by decide +kernel
theorem dX5_keep_5 : decode cX5_keep 5 = .ok (.getfield 98, 3) := by decide +kernel
theorem dX5_keep_8 : decode cX5_keep 8 = .ok (.imul, 1) := by decide +kernel
theorem dX5_keep_9 : decode cX5_keep 9 = .ok (.iadd, 1) := by decide +kernel
theorem dX5_keep_10 : decode cX5_keep 10 = .ok (.ishr, 1) := by decide +kernel
theorem dX5_keep_11 : decode cX5_keep 11 = .ok (.istore_n 2, 1) := by decide +kernel
theorem dX5_keep_12 : decode cX5_keep 12 = .ok (.aload_n 0, 1) := by decide +kernel
theorem dX5_keep_13 : decode cX5_keep 13 = .ok (.getfield 128, 3) := by decide +kernel
theorem dX5_keep_16 : decode cX5_keep 16 = .ok (.iconst 1, 1) := by decide +kernel
theorem dX5_keep_17 : decode cX5_keep 17 = .ok (.isub, 1) := by decide +kernel
theorem dX5_keep_18 : decode cX5_keep 18 = .ok (.istore_n 3, 1) := by decide +kernel
theorem dX5_keep_19 : decode cX5_keep 19 = .ok (.iload_n 3, 1) := by decide +kernel
theorem dX5_keep_20 : decode cX5_keep 20 = .ok (.ifCond .lt 50, 3) := by decide +kernel
theorem dX5_keep_23 : decode cX5_keep 23 = .ok (.aload_n 0, 1) := by decide +kernel
theorem dX5_keep_24 : decode cX5_keep 24 = .ok (.getfield 20, 3) := by decide +kernel
theorem dX5_keep_27 : decode cX5_keep 27 = .ok (.iload_n 3, 1) := by decide +kernel
theorem dX5_keep_28 : decode cX5_keep 28 = .ok (.iaload, 1) := by decide +kernel
theorem dX5_keep_29 : decode cX5_keep 29 = .ok (.aload_n 0, 1) := by decide +kernel
theorem dX5_keep_30 : decode cX5_keep 30 = .ok (.getfield 69, 3) := by decide +kernel
theorem dX5_keep_33 : decode cX5_keep 33 = .ok (.if_icmp .ne 31, 3) := by decide +kernel
theorem dX5_keep_36 : decode cX5_keep 36 = .ok (.aload_n 0, 1) := by decide +kernel
theorem dX5_keep_37 : decode cX5_keep 37 = .ok (.getfield 23, 3) := by decide +kernel
theorem dX5_keep_40 : decode cX5_keep 40 = .ok (.iload_n 3, 1) := by decide +kernel
theorem dX5_keep_41 : decode cX5_keep 41 = .ok (.iaload, 1) := by decide +kernel
theorem dX5_keep_42 : decode cX5_keep 42 = .ok (.aload_n 0, 1) := by decide +kernel
theorem dX5_keep_43 : decode cX5_keep 43 = .ok (.getfield 98, 3) := by decide +kernel
theorem dX5_keep_46 : decode cX5_keep 46 = .ok (.if_icmp .ne 18, 3) := by decide +kernel
theorem dX5_keep_49 : decode cX5_keep 49 = .ok (.aload_n 0, 1) := by decide +kernel
theorem dX5_keep_50 : decode cX5_keep 50 = .ok (.getfield 26, 3) := by decide +kernel
theorem dX5_keep_53 : decode cX5_keep 53 = .ok (.iload_n 3, 1) := by decide +kernel
theorem dX5_keep_54 : decode cX5_keep 54 = .ok (.iaload, 1) := by decide +kernel
theorem dX5_keep_55 : decode cX5_keep 55 = .ok (.iload_n 2, 1) := by decide +kernel
theorem dX5_keep_56 : decode cX5_keep 56 = .ok (.if_icmp .ne 8, 3) := by decide +kernel
theorem dX5_keep_59 : decode cX5_keep 59 = .ok (.aload_n 0, 1) := by decide +kernel
theorem dX5_keep_60 : decode cX5_keep 60 = .ok (.iload_n 3, 1) := by decide +kernel
theorem dX5_keep_61 : decode cX5_keep 61 = .ok (.invokevirtual 137, 3) := by decide +kernel
theorem dX5_keep_64 : decode cX5_keep 64 = .ok (.iinc 3 (-1), 3) := by decide +kernel
theorem dX5_keep_67 : decode cX5_keep 67 = .ok (.goto (-48), 3) := by decide +kernel
theorem dX5_keep_70 : decode cX5_keep 70 = .ok (.aload_n 0, 1) := by decide +kernel
theorem dX5_keep_71 : decode cX5_keep 71 = .ok (.getfield 128, 3) := by decide +kernel
theorem dX5_keep_74 : decode cX5_keep 74 = .ok (.aload_n 0, 1) := by decide +kernel
theorem dX5_keep_75 : decode cX5_keep 75 = .ok (.getfield 55, 3) := by decide +kernel
theorem dX5_keep_78 : decode cX5_keep 78 = .ok (.if_icmp .ne 61, 3) := by decide +kernel
theorem dX5_keep_81 : decode cX5_keep 81 = .ok (.iconst 0, 1) := by decide +kernel
theorem dX5_keep_82 : decode cX5_keep 82 = .ok (.istore_n 3, 1) := by decide +kernel
theorem dX5_keep_83 : decode cX5_keep 83 = .ok (.iconst 1, 1) := by decide +kernel
theorem dX5_keep_84 : decode cX5_keep 84 = .ok (.istore 4, 2) := by decide +kernel
theorem dX5_keep_86 : decode cX5_keep 86 = .ok (.iload 4, 2) := by decide +kernel
theorem dX5_keep_88 : decode cX5_keep 88 = .ok (.aload_n 0, 1) := by decide +kernel
theorem dX5_keep_89 : decode cX5_keep 89 = .ok (.getfield 128, 3) := by decide +kernel
theorem dX5_keep_92 : decode cX5_keep 92 = .ok (.if_icmp .ge 32, 3) := by decide +kernel
theorem dX5_keep_95 : decode cX5_keep 95 = .ok (.aload_n 0, 1) := by decide +kernel
theorem dX5_keep_96 : decode cX5_keep 96 = .ok (.getfield 35, 3) := by decide +kernel
theorem dX5_keep_99 : decode cX5_keep 99 = .ok (.iload 4, 2) := by decide +kernel
theorem dX5_keep_101 : decode cX5_keep 101 = .ok (.iaload, 1) := by decide +kernel
theorem dX5_keep_102 : decode cX5_keep 102 = .ok (.aload_n 0, 1) := by decide +kernel
theorem dX5_keep_103 : decode cX5_keep 103 = .ok (.getfield 35, 3) := by decide +kernel
theorem dX5_keep_106 : decode cX5_keep 106 = .ok (.iload_n 3, 1) := by decide +kernel
theorem dX5_keep_107 : decode cX5_keep 107 = .ok (.iaload, 1) := by decide +kernel
theorem dX5_keep_108 : decode cX5_keep 108 = .ok (.if_icmp .ge 8, 3) := by decide +kernel
theorem dX5_keep_111 : decode cX5_keep 111 = .ok (.iload 4, 2) := by decide +kernel
theorem dX5_keep_113 : decode cX5_keep 113 = .ok (.goto 4, 3) := by decide +kernel
theorem dX5_keep_116 : decode cX5_keep 116 = .ok (.iload_n 3, 1) := by decide +kernel
theorem dX5_keep_117 : decode cX5_keep 117 = .ok (.istore_n 3, 1) := by decide +kernel
theorem dX5_keep_118 : decode cX5_keep 118 = .ok (.iinc 4 1, 3) := by decide +kernel
theorem dX5_keep_121 : decode cX5_keep 121 = .ok (.goto (-35), 3) := by decide +kernel
theorem dX5_keep_124 : decode cX5_keep 124 = .ok (.aload_n 0, 1) := by decide +kernel
theorem dX5_keep_125 : decode cX5_keep 125 = .ok (.iload_n 3, 1) := by decide +kernel
theorem dX5_keep_126 : decode cX5_keep 126 = .ok (.invokevirtual 137, 3) := by decide +kernel
theorem dX5_keep_129 : decode cX5_keep 129 = .ok (.aload_n 0, 1) := by decide +kernel
theorem dX5_keep_130 : decode cX5_keep 130 = .ok (.dup, 1) := by decide +kernel
theorem dX5_keep_131 : decode cX5_keep 131 = .ok (.getfield 141, 3) := by decide +kernel
theorem dX5_keep_134 : decode cX5_keep 134 = .ok (.iconst 1, 1) := by decide +kernel
theorem dX5_keep_135 : decode cX5_keep 135 = .ok (.iadd, 1) := by decide +kernel
theorem dX5_keep_136 : decode cX5_keep 136 = .ok (.putfield 141, 3) := by decide +kernel
theorem dX5_keep_139 : decode cX5_keep 139 = .ok (.aload_n 0, 1) := by decide +kernel
theorem dX5_keep_140 : decode cX5_keep 140 = .ok (.getfield 7, 3) := by decide +kernel
theorem dX5_keep_143 : decode cX5_keep 143 = .ok (.aload_n 0, 1) := by decide +kernel
theorem dX5_keep_144 : decode cX5_keep 144 = .ok (.getfield 49, 3) := by decide +kernel
theorem dX5_keep_147 : decode cX5_keep 147 = .ok (.aload_n 0, 1) := by decide +kernel
theorem dX5_keep_148 : decode cX5_keep 148 = .ok (.getfield 101, 3) := by decide +kernel
theorem dX5_keep_151 : decode cX5_keep 151 = .ok (.iconst 1, 1) := by decide +kernel
theorem dX5_keep_152 : decode cX5_keep 152 = .ok (.isub, 1) := by decide +kernel
theorem dX5_keep_153 : decode cX5_keep 153 = .ok (.iaload, 1) := by decide +kernel
theorem dX5_keep_154 : decode cX5_keep 154 = .ok (.laload, 1) := by decide +kernel
theorem dX5_keep_155 : decode cX5_keep 155 = .ok (.lstore_n 3, 1) := by decide +kernel
theorem dX5_keep_156 : decode cX5_keep 156 = .ok (.aload_n 0, 1) := by decide +kernel
theorem dX5_keep_157 : decode cX5_keep 157 = .ok (.getfield 20, 3) := by decide +kernel
theorem dX5_keep_160 : decode cX5_keep 160 = .ok (.aload_n 0, 1) := by decide +kernel
theorem dX5_keep_161 : decode cX5_keep 161 = .ok (.getfield 128, 3) := by decide +kernel
theorem dX5_keep_164 : decode cX5_keep 164 = .ok (.aload_n 0, 1) := by decide +kernel
theorem dX5_keep_165 : decode cX5_keep 165 = .ok (.getfield 69, 3) := by decide +kernel
theorem dX5_keep_168 : decode cX5_keep 168 = .ok (.iastore, 1) := by decide +kernel
theorem dX5_keep_169 : decode cX5_keep 169 = .ok (.aload_n 0, 1) := by decide +kernel
theorem dX5_keep_170 : decode cX5_keep 170 = .ok (.getfield 23, 3) := by decide +kernel
theorem dX5_keep_173 : decode cX5_keep 173 = .ok (.aload_n 0, 1) := by decide +kernel
theorem dX5_keep_174 : decode cX5_keep 174 = .ok (.getfield 128, 3) := by decide +kernel
theorem dX5_keep_177 : decode cX5_keep 177 = .ok (.aload_n 0, 1) := by decide +kernel
theorem dX5_keep_178 : decode cX5_keep 178 = .ok (.getfield 98, 3) := by decide +kernel
theorem dX5_keep_181 : decode cX5_keep 181 = .ok (.iastore, 1) := by decide +kernel
theorem dX5_keep_182 : decode cX5_keep 182 = .ok (.aload_n 0, 1) := by decide +kernel
theorem dX5_keep_183 : decode cX5_keep 183 = .ok (.getfield 26, 3) := by decide +kernel
theorem dX5_keep_186 : decode cX5_keep 186 = .ok (.aload_n 0, 1) := by decide +kernel
theorem dX5_keep_187 : decode cX5_keep 187 = .ok (.getfield 128, 3) := by decide +kernel
theorem dX5_keep_190 : decode cX5_keep 190 = .ok (.iload_n 2, 1) := by decide +kernel
theorem dX5_keep_191 : decode cX5_keep 191 = .ok (.iastore, 1) := by decide +kernel
theorem dX5_keep_192 : decode cX5_keep 192 = .ok (.aload_n 0, 1) := by decide +kernel
theorem dX5_keep_193 : decode cX5_keep 193 = .ok (.getfield 29, 3) := by decide +kernel
theorem dX5_keep_196 : decode cX5_keep 196 = .ok (.aload_n 0, 1) := by decide +kernel
theorem dX5_keep_197 : decode cX5_keep 197 = .ok (.getfield 128, 3) := by decide +kernel
theorem dX5_keep_200 : decode cX5_keep 200 = .ok (.lload_n 3, 1) := by decide +kernel
theorem dX5_keep_201 : decode cX5_keep 201 = .ok (.invokestatic 106, 3) := by decide +kernel
theorem dX5_keep_204 : decode cX5_keep 204 = .ok (.iastore, 1) := by decide +kernel
theorem dX5_keep_205 : decode cX5_keep 205 = .ok (.aload_n 0, 1) := by decide +kernel
theorem dX5_keep_206 : decode cX5_keep 206 = .ok (.getfield 32, 3) := by decide +kernel
theorem dX5_keep_209 : decode cX5_keep 209 = .ok (.aload_n 0, 1) := by decide +kernel
theorem dX5_keep_210 : decode cX5_keep 210 = .ok (.getfield 128, 3) := by decide +kernel
theorem dX5_keep_213 : decode cX5_keep 213 = .ok (.lload_n 3, 1) := by decide +kernel
theorem dX5_keep_214 : decode cX5_keep 214 = .ok (.invokestatic 110, 3) := by decide +kernel
theorem dX5_keep_217 : decode cX5_keep 217 = .ok (.iastore, 1) := by decide +kernel
theorem dX5_keep_218 : decode cX5_keep 218 = .ok (.aload_n 0, 1) := by decide +kernel
theorem dX5_keep_219 : decode cX5_keep 219 = .ok (.getfield 38, 3) := by decide +kernel
theorem dX5_keep_222 : decode cX5_keep 222 = .ok (.aload_n 0, 1) := by decide +kernel
theorem dX5_keep_223 : decode cX5_keep 223 = .ok (.getfield 128, 3) := by decide +kernel
theorem dX5_keep_226 : decode cX5_keep 226 = .ok (.lload_n 3, 1) := by decide +kernel
theorem dX5_keep_227 : decode cX5_keep 227 = .ok (.ldc2_w 144, 3) := by decide +kernel
theorem dX5_keep_230 : decode cX5_keep 230 = .ok (.land, 1) := by decide +kernel
theorem dX5_keep_231 : decode cX5_keep 231 = .ok (.lconst 0, 1) := by decide +kernel
theorem dX5_keep_232 : decode cX5_keep 232 = .ok (.lcmp, 1) := by decide +kernel
theorem dX5_keep_233 : decode cX5_keep 233 = .ok (.ifCond .eq 7, 3) := by decide +kernel
theorem dX5_keep_236 : decode cX5_keep 236 = .ok (.iconst 1, 1) := by decide +kernel
theorem dX5_keep_237 : decode cX5_keep 237 = .ok (.goto 4, 3) := by decide +kernel
theorem dX5_keep_240 : decode cX5_keep 240 = .ok (.iconst 0, 1) := by decide +kernel
theorem dX5_keep_241 : decode cX5_keep 241 = .ok (.bastore, 1) := by decide +kernel
theorem dX5_keep_242 : decode cX5_keep 242 = .ok (.aload_n 0, 1) := by decide +kernel
theorem dX5_keep_243 : decode cX5_keep 243 = .ok (.dup, 1) := by decide +kernel
theorem dX5_keep_244 : decode cX5_keep 244 = .ok (.getfield 128, 3) := by decide +kernel
theorem dX5_keep_247 : decode cX5_keep 247 = .ok (.iconst 1, 1) := by decide +kernel
theorem dX5_keep_248 : decode cX5_keep 248 = .ok (.iadd, 1) := by decide +kernel
theorem dX5_keep_249 : decode cX5_keep 249 = .ok (.putfield 128, 3) := by decide +kernel
theorem dX5_keep_252 : decode cX5_keep 252 = .ok (.aload_n 0, 1) := by decide +kernel
theorem dX5_keep_253 : decode cX5_keep 253 = .ok (.aload_n 0, 1) := by decide +kernel
theorem dX5_keep_254 : decode cX5_keep 254 = .ok (.getfield 128, 3) := by decide +kernel
theorem dX5_keep_257 : decode cX5_keep 257 = .ok (.iconst 1, 1) := by decide +kernel
theorem dX5_keep_258 : decode cX5_keep 258 = .ok (.isub, 1) := by decide +kernel
theorem dX5_keep_259 : decode cX5_keep 259 = .ok (.invokevirtual 146, 3) := by decide +kernel
theorem dX5_keep_262 : decode cX5_keep 262 = .ok (.return_, 1) := by decide +kernel
theorem dX5_mark_0 : decode cX5_mark 0 = .ok (.iconst 0, 1) := by decide +kernel
theorem dX5_mark_1 : decode cX5_mark 1 = .ok (.istore_n 2, 1) := by decide +kernel
theorem dX5_mark_2 : decode cX5_mark 2 = .ok (.iload_n 2, 1) := by decide +kernel
theorem dX5_mark_3 : decode cX5_mark 3 = .ok (.aload_n 0, 1) := by decide +kernel
theorem dX5_mark_4 : decode cX5_mark 4 = .ok (.getfield 101, 3) := by decide +kernel
theorem dX5_mark_7 : decode cX5_mark 7 = .ok (.if_icmp .ge 26, 3) := by decide +kernel
theorem dX5_mark_10 : decode cX5_mark 10 = .ok (.aload_n 0, 1) := by decide +kernel
theorem dX5_mark_11 : decode cX5_mark 11 = .ok (.getfield 7, 3) := by decide +kernel
theorem dX5_mark_14 : decode cX5_mark 14 = .ok (.aload_n 0, 1) := by decide +kernel
theorem dX5_mark_15 : decode cX5_mark 15 = .ok (.getfield 49, 3) := by decide +kernel
theorem dX5_mark_18 : decode cX5_mark 18 = .ok (.iload_n 2, 1) := by decide +kernel
theorem dX5_mark_19 : decode cX5_mark 19 = .ok (.iaload, 1) := by decide +kernel
theorem dX5_mark_20 : decode cX5_mark 20 = .ok (.dup2, 1) := by decide +kernel
theorem dX5_mark_21 : decode cX5_mark 21 = .ok (.laload, 1) := by decide +kernel
theorem dX5_mark_22 : decode cX5_mark 22 = .ok (.ldc2_w 149, 3) := by decide +kernel
theorem dX5_mark_25 : decode cX5_mark 25 = .ok (.lor, 1) := by decide +kernel
theorem dX5_mark_26 : decode cX5_mark 26 = .ok (.lastore, 1) := by decide +kernel
theorem dX5_mark_27 : decode cX5_mark 27 = .ok (.iinc 2 1, 3) := by decide +kernel
theorem dX5_mark_30 : decode cX5_mark 30 = .ok (.goto (-28), 3) := by decide +kernel
theorem dX5_mark_33 : decode cX5_mark 33 = .ok (.iload_n 1, 1) := by decide +kernel
theorem dX5_mark_34 : decode cX5_mark 34 = .ok (.iconst 3, 1) := by decide +kernel
theorem dX5_mark_35 : decode cX5_mark 35 = .ok (.irem, 1) := by decide +kernel
theorem dX5_mark_36 : decode cX5_mark 36 = .ok (.iconst 1, 1) := by decide +kernel
theorem dX5_mark_37 : decode cX5_mark 37 = .ok (.if_icmp .ne 25, 3) := by decide +kernel
theorem dX5_mark_40 : decode cX5_mark 40 = .ok (.aload_n 0, 1) := by decide +kernel
theorem dX5_mark_41 : decode cX5_mark 41 = .ok (.getfield 7, 3) := by decide +kernel
theorem dX5_mark_44 : decode cX5_mark 44 = .ok (.aload_n 0, 1) := by decide +kernel
theorem dX5_mark_45 : decode cX5_mark 45 = .ok (.getfield 49, 3) := by decide +kernel
theorem dX5_mark_48 : decode cX5_mark 48 = .ok (.aload_n 0, 1) := by decide +kernel
theorem dX5_mark_49 : decode cX5_mark 49 = .ok (.getfield 101, 3) := by decide +kernel
theorem dX5_mark_52 : decode cX5_mark 52 = .ok (.iconst 1, 1) := by decide +kernel
theorem dX5_mark_53 : decode cX5_mark 53 = .ok (.isub, 1) := by decide +kernel
theorem dX5_mark_54 : decode cX5_mark 54 = .ok (.iaload, 1) := by decide +kernel
theorem dX5_mark_55 : decode cX5_mark 55 = .ok (.dup2, 1) := by decide +kernel
theorem dX5_mark_56 : decode cX5_mark 56 = .ok (.laload, 1) := by decide +kernel
theorem dX5_mark_57 : decode cX5_mark 57 = .ok (.ldc2_w 144, 3) := by decide +kernel
theorem dX5_mark_60 : decode cX5_mark 60 = .ok (.lor, 1) := by decide +kernel
theorem dX5_mark_61 : decode cX5_mark 61 = .ok (.lastore, 1) := by decide +kernel
theorem dX5_mark_62 : decode cX5_mark 62 = .ok (.return_, 1) := by decide +kernel
theorem dX5_told_0 : decode cX5_told 0 = .ok (.aload_n 0, 1) := by decide +kernel
theorem dX5_told_1 : decode cX5_told 1 = .ok (.iload_n 1, 1) := by decide +kernel
theorem dX5_told_2 : decode cX5_told 2 = .ok (.ifCond .eq 10, 3) := by decide +kernel
theorem dX5_told_5 : decode cX5_told 5 = .ok (.aload_n 0, 1) := by decide +kernel
theorem dX5_told_6 : decode cX5_told 6 = .ok (.getfield 95, 3) := by decide +kernel
theorem dX5_told_9 : decode cX5_told 9 = .ok (.goto 4, 3) := by decide +kernel
theorem dX5_told_12 : decode cX5_told 12 = .ok (.iconst (-1), 1) := by decide +kernel
theorem dX5_told_13 : decode cX5_told 13 = .ok (.putfield 42, 3) := by decide +kernel
theorem dX5_told_16 : decode cX5_told 16 = .ok (.aload_n 0, 1) := by decide +kernel
theorem dX5_told_17 : decode cX5_told 17 = .ok (.iload_n 1, 1) := by decide +kernel
theorem dX5_told_18 : decode cX5_told 18 = .ok (.ifCond .eq 7, 3) := by decide +kernel
theorem dX5_told_21 : decode cX5_told 21 = .ok (.iconst (-1), 1) := by decide +kernel
theorem dX5_told_22 : decode cX5_told 22 = .ok (.goto 7, 3) := by decide +kernel
theorem dX5_told_25 : decode cX5_told 25 = .ok (.aload_n 0, 1) := by decide +kernel
theorem dX5_told_26 : decode cX5_told 26 = .ok (.getfield 81, 3) := by decide +kernel
theorem dX5_told_29 : decode cX5_told 29 = .ok (.putfield 46, 3) := by decide +kernel
theorem dX5_told_32 : decode cX5_told 32 = .ok (.aload_n 0, 1) := by decide +kernel
theorem dX5_told_33 : decode cX5_told 33 = .ok (.dup, 1) := by decide +kernel
theorem dX5_told_34 : decode cX5_told 34 = .ok (.getfield 151, 3) := by decide +kernel
theorem dX5_told_37 : decode cX5_told 37 = .ok (.iload_n 1, 1) := by decide +kernel
theorem dX5_told_38 : decode cX5_told 38 = .ok (.ifCond .eq 7, 3) := by decide +kernel
theorem dX5_told_41 : decode cX5_told 41 = .ok (.iconst 0, 1) := by decide +kernel
theorem dX5_told_42 : decode cX5_told 42 = .ok (.goto 4, 3) := by decide +kernel
theorem dX5_told_45 : decode cX5_told 45 = .ok (.iconst 1, 1) := by decide +kernel
theorem dX5_told_46 : decode cX5_told 46 = .ok (.iadd, 1) := by decide +kernel
theorem dX5_told_47 : decode cX5_told 47 = .ok (.putfield 151, 3) := by decide +kernel
theorem dX5_told_50 : decode cX5_told 50 = .ok (.iload_n 1, 1) := by decide +kernel
theorem dX5_told_51 : decode cX5_told 51 = .ok (.ifCond .eq 7, 3) := by decide +kernel
theorem dX5_told_54 : decode cX5_told 54 = .ok (.iconst 0, 1) := by decide +kernel
theorem dX5_told_55 : decode cX5_told 55 = .ok (.goto 7, 3) := by decide +kernel
theorem dX5_told_58 : decode cX5_told 58 = .ok (.aload_n 0, 1) := by decide +kernel
theorem dX5_told_59 : decode cX5_told 59 = .ok (.getfield 78, 3) := by decide +kernel
theorem dX5_told_62 : decode cX5_told 62 = .ok (.ireturn, 1) := by decide +kernel
theorem dX5_byEntry_0 : decode cX5_byEntry 0 = .ok (.aload_n 0, 1) := by decide +kernel
theorem dX5_byEntry_1 : decode cX5_byEntry 1 = .ok (.dup, 1) := by decide +kernel
theorem dX5_byEntry_2 : decode cX5_byEntry 2 = .ok (.getfield 154, 3) := by decide +kernel
theorem dX5_byEntry_5 : decode cX5_byEntry 5 = .ok (.iconst 1, 1) := by decide +kernel
theorem dX5_byEntry_6 : decode cX5_byEntry 6 = .ok (.iadd, 1) := by decide +kernel
theorem dX5_byEntry_7 : decode cX5_byEntry 7 = .ok (.putfield 154, 3) := by decide +kernel
theorem dX5_byEntry_10 : decode cX5_byEntry 10 = .ok (.aload_n 0, 1) := by decide +kernel
theorem dX5_byEntry_11 : decode cX5_byEntry 11 = .ok (.iload_n 1, 1) := by decide +kernel
theorem dX5_byEntry_12 : decode cX5_byEntry 12 = .ok (.invokevirtual 146, 3) := by decide +kernel
theorem dX5_byEntry_15 : decode cX5_byEntry 15 = .ok (.aload_n 0, 1) := by decide +kernel
theorem dX5_byEntry_16 : decode cX5_byEntry 16 = .ok (.getfield 32, 3) := by decide +kernel
theorem dX5_byEntry_19 : decode cX5_byEntry 19 = .ok (.iload_n 1, 1) := by decide +kernel
theorem dX5_byEntry_20 : decode cX5_byEntry 20 = .ok (.iaload, 1) := by decide +kernel
theorem dX5_byEntry_21 : decode cX5_byEntry 21 = .ok (.iload_n 3, 1) := by decide +kernel
theorem dX5_byEntry_22 : decode cX5_byEntry 22 = .ok (.invokestatic 113, 3) := by decide +kernel
theorem dX5_byEntry_25 : decode cX5_byEntry 25 = .ok (.ifCond .ne 13, 3) := by decide +kernel
theorem dX5_byEntry_28 : decode cX5_byEntry 28 = .ok (.aload_n 0, 1) := by decide +kernel
theorem dX5_byEntry_29 : decode cX5_byEntry 29 = .ok (.iconst 3, 1) := by decide +kernel
theorem dX5_byEntry_30 : decode cX5_byEntry 30 = .ok (.aload_n 0, 1) := by decide +kernel
theorem dX5_byEntry_31 : decode cX5_byEntry 31 = .ok (.getfield 52, 3) := by decide +kernel
theorem dX5_byEntry_34 : decode cX5_byEntry 34 = .ok (.invokevirtual 92, 3) := by decide +kernel
theorem dX5_byEntry_37 : decode cX5_byEntry 37 = .ok (.ireturn, 1) := by decide +kernel
theorem dX5_byEntry_38 : decode cX5_byEntry 38 = .ok (.aload_n 0, 1) := by decide +kernel
theorem dX5_byEntry_39 : decode cX5_byEntry 39 = .ok (.aload_n 0, 1) := by decide +kernel
theorem dX5_byEntry_40 : decode cX5_byEntry 40 = .ok (.getfield 29, 3) := by decide +kernel
theorem dX5_byEntry_43 : decode cX5_byEntry 43 = .ok (.iload_n 1, 1) := by decide +kernel
theorem dX5_byEntry_44 : decode cX5_byEntry 44 = .ok (.iaload, 1) := by decide +kernel
theorem dX5_byEntry_45 : decode cX5_byEntry 45 = .ok (.aload_n 0, 1) := by decide +kernel
theorem dX5_byEntry_46 : decode cX5_byEntry 46 = .ok (.getfield 23, 3) := by decide +kernel
theorem dX5_byEntry_49 : decode cX5_byEntry 49 = .ok (.iload_n 1, 1) := by decide +kernel
theorem dX5_byEntry_50 : decode cX5_byEntry 50 = .ok (.iaload, 1) := by decide +kernel
theorem dX5_byEntry_51 : decode cX5_byEntry 51 = .ok (.iload_n 2, 1) := by decide +kernel
theorem dX5_byEntry_52 : decode cX5_byEntry 52 = .ok (.invokevirtual 124, 3) := by decide +kernel
theorem dX5_byEntry_55 : decode cX5_byEntry 55 = .ok (.ireturn, 1) := by decide +kernel
theorem dX5_walk_0 : decode cX5_walk 0 = .ok (.aload_n 0, 1) := by decide +kernel
theorem dX5_walk_1 : decode cX5_walk 1 = .ok (.iload_n 2, 1) := by decide +kernel
theorem dX5_walk_2 : decode cX5_walk 2 = .ok (.bipush 6, 2) := by decide +kernel
theorem dX5_walk_4 : decode cX5_walk 4 = .ok (.invokestatic 61, 3) := by decide +kernel
theorem dX5_walk_7 : decode cX5_walk 7 = .ok (.ifCond .ne 7, 3) := by decide +kernel
theorem dX5_walk_10 : decode cX5_walk 10 = .ok (.iconst 1, 1) := by decide +kernel
theorem dX5_walk_11 : decode cX5_walk 11 = .ok (.goto 4, 3) := by decide +kernel
theorem dX5_walk_14 : decode cX5_walk 14 = .ok (.iconst 0, 1) := by decide +kernel
theorem dX5_walk_15 : decode cX5_walk 15 = .ok (.iconst 0, 1) := by decide +kernel
theorem dX5_walk_16 : decode cX5_walk 16 = .ok (.invokevirtual 65, 3) := by decide +kernel
theorem dX5_walk_19 : decode cX5_walk 19 = .ok (.ifCond .eq 5, 3) := by decide +kernel
theorem dX5_walk_22 : decode cX5_walk 22 = .ok (.iconst 0, 1) := by decide +kernel
theorem dX5_walk_23 : decode cX5_walk 23 = .ok (.ireturn, 1) := by decide +kernel
theorem dX5_walk_24 : decode cX5_walk 24 = .ok (.aload_n 0, 1) := by decide +kernel
theorem dX5_walk_25 : decode cX5_walk 25 = .ok (.iload_n 1, 1) := by decide +kernel
theorem dX5_walk_26 : decode cX5_walk 26 = .ok (.invokevirtual 116, 3) := by decide +kernel
theorem dX5_walk_29 : decode cX5_walk 29 = .ok (.ifCond .eq 7, 3) := by decide +kernel
theorem dX5_walk_32 : decode cX5_walk 32 = .ok (.iconst (-1), 1) := by decide +kernel
theorem dX5_walk_33 : decode cX5_walk 33 = .ok (.goto 8, 3) := by decide +kernel
theorem dX5_walk_36 : decode cX5_walk 36 = .ok (.aload_n 0, 1) := by decide +kernel
theorem dX5_walk_37 : decode cX5_walk 37 = .ok (.iload_n 1, 1) := by decide +kernel
theorem dX5_walk_38 : decode cX5_walk 38 = .ok (.invokevirtual 157, 3) := by decide +kernel
theorem dX5_walk_41 : decode cX5_walk 41 = .ok (.istore_n 3, 1) := by decide +kernel
theorem dX5_walk_42 : decode cX5_walk 42 = .ok (.iload_n 2, 1) := by decide +kernel
theorem dX5_walk_43 : decode cX5_walk 43 = .ok (.iconst 3, 1) := by decide +kernel
theorem dX5_walk_44 : decode cX5_walk 44 = .ok (.irem, 1) := by decide +kernel
theorem dX5_walk_45 : decode cX5_walk 45 = .ok (.iconst 1, 1) := by decide +kernel
theorem dX5_walk_46 : decode cX5_walk 46 = .ok (.if_icmp .ne 7, 3) := by decide +kernel
theorem dX5_walk_49 : decode cX5_walk 49 = .ok (.iconst 1, 1) := by decide +kernel
theorem dX5_walk_50 : decode cX5_walk 50 = .ok (.goto 4, 3) := by decide +kernel
theorem dX5_walk_53 : decode cX5_walk 53 = .ok (.iconst 0, 1) := by decide +kernel
theorem dX5_walk_54 : decode cX5_walk 54 = .ok (.istore 4, 2) := by decide +kernel
theorem dX5_walk_56 : decode cX5_walk 56 = .ok (.iload_n 3, 1) := by decide +kernel
theorem dX5_walk_57 : decode cX5_walk 57 = .ok (.ifCond .lt 42, 3) := by decide +kernel
theorem dX5_walk_60 : decode cX5_walk 60 = .ok (.iload 4, 2) := by decide +kernel
theorem dX5_walk_62 : decode cX5_walk 62 = .ok (.ifCond .eq 25, 3) := by decide +kernel
theorem dX5_walk_65 : decode cX5_walk 65 = .ok (.aload_n 0, 1) := by decide +kernel
theorem dX5_walk_66 : decode cX5_walk 66 = .ok (.getfield 38, 3) := by decide +kernel
theorem dX5_walk_69 : decode cX5_walk 69 = .ok (.iload_n 3, 1) := by decide +kernel
theorem dX5_walk_70 : decode cX5_walk 70 = .ok (.baload, 1) := by decide +kernel
theorem dX5_walk_71 : decode cX5_walk 71 = .ok (.ifCond .ne 16, 3) := by decide +kernel
theorem dX5_walk_74 : decode cX5_walk 74 = .ok (.aload_n 0, 1) := by decide +kernel
theorem dX5_walk_75 : decode cX5_walk 75 = .ok (.getfield 32, 3) := by decide +kernel
theorem dX5_walk_78 : decode cX5_walk 78 = .ok (.iload_n 3, 1) := by decide +kernel
theorem dX5_walk_79 : decode cX5_walk 79 = .ok (.iaload, 1) := by decide +kernel
theorem dX5_walk_80 : decode cX5_walk 80 = .ok (.iload_n 2, 1) := by decide +kernel
theorem dX5_walk_81 : decode cX5_walk 81 = .ok (.invokestatic 113, 3) := by decide +kernel
theorem dX5_walk_84 : decode cX5_walk 84 = .ok (.ifCond .ne 15, 3) := by decide +kernel
theorem dX5_walk_87 : decode cX5_walk 87 = .ok (.aload_n 0, 1) := by decide +kernel
theorem dX5_walk_88 : decode cX5_walk 88 = .ok (.aload_n 0, 1) := by decide +kernel
theorem dX5_walk_89 : decode cX5_walk 89 = .ok (.iload_n 3, 1) := by decide +kernel
theorem dX5_walk_90 : decode cX5_walk 90 = .ok (.iload_n 1, 1) := by decide +kernel
theorem dX5_walk_91 : decode cX5_walk 91 = .ok (.iload_n 2, 1) := by decide +kernel
theorem dX5_walk_92 : decode cX5_walk 92 = .ok (.invokevirtual 160, 3) := by decide +kernel
theorem dX5_walk_95 : decode cX5_walk 95 = .ok (.invokevirtual 163, 3) := by decide +kernel
theorem dX5_walk_98 : decode cX5_walk 98 = .ok (.ireturn, 1) := by decide +kernel
theorem dX5_walk_99 : decode cX5_walk 99 = .ok (.aload_n 0, 1) := by decide +kernel
theorem dX5_walk_100 : decode cX5_walk 100 = .ok (.dup, 1) := by decide +kernel
theorem dX5_walk_101 : decode cX5_walk 101 = .ok (.getfield 167, 3) := by decide +kernel
theorem dX5_walk_104 : decode cX5_walk 104 = .ok (.iconst 1, 1) := by decide +kernel
theorem dX5_walk_105 : decode cX5_walk 105 = .ok (.iadd, 1) := by decide +kernel
theorem dX5_walk_106 : decode cX5_walk 106 = .ok (.putfield 167, 3) := by decide +kernel
theorem dX5_walk_109 : decode cX5_walk 109 = .ok (.aload_n 0, 1) := by decide +kernel
theorem dX5_walk_110 : decode cX5_walk 110 = .ok (.iload_n 1, 1) := by decide +kernel
theorem dX5_walk_111 : decode cX5_walk 111 = .ok (.iload_n 2, 1) := by decide +kernel
theorem dX5_walk_112 : decode cX5_walk 112 = .ok (.invokevirtual 170, 3) := by decide +kernel
theorem dX5_walk_115 : decode cX5_walk 115 = .ok (.istore 5, 2) := by decide +kernel
theorem dX5_walk_117 : decode cX5_walk 117 = .ok (.aload_n 0, 1) := by decide +kernel
theorem dX5_walk_118 : decode cX5_walk 118 = .ok (.dup, 1) := by decide +kernel
theorem dX5_walk_119 : decode cX5_walk 119 = .ok (.getfield 173, 3) := by decide +kernel
theorem dX5_walk_122 : decode cX5_walk 122 = .ok (.aload_n 0, 1) := by decide +kernel
theorem dX5_walk_123 : decode cX5_walk 123 = .ok (.getfield 101, 3) := by decide +kernel
theorem dX5_walk_126 : decode cX5_walk 126 = .ok (.iadd, 1) := by decide +kernel
theorem dX5_walk_127 : decode cX5_walk 127 = .ok (.putfield 173, 3) := by decide +kernel
theorem dX5_walk_130 : decode cX5_walk 130 = .ok (.iload 5, 2) := by decide +kernel
theorem dX5_walk_132 : decode cX5_walk 132 = .ok (.ifCond .eq 13, 3) := by decide +kernel
theorem dX5_walk_135 : decode cX5_walk 135 = .ok (.aload_n 0, 1) := by decide +kernel
theorem dX5_walk_136 : decode cX5_walk 136 = .ok (.iload_n 2, 1) := by decide +kernel
theorem dX5_walk_137 : decode cX5_walk 137 = .ok (.invokevirtual 176, 3) := by decide +kernel
theorem dX5_walk_140 : decode cX5_walk 140 = .ok (.aload_n 0, 1) := by decide +kernel
theorem dX5_walk_141 : decode cX5_walk 141 = .ok (.iload_n 1, 1) := by decide +kernel
theorem dX5_walk_142 : decode cX5_walk 142 = .ok (.invokevirtual 179, 3) := by decide +kernel
theorem dX5_walk_145 : decode cX5_walk 145 = .ok (.aload_n 0, 1) := by decide +kernel
theorem dX5_walk_146 : decode cX5_walk 146 = .ok (.iload 5, 2) := by decide +kernel
theorem dX5_walk_148 : decode cX5_walk 148 = .ok (.invokevirtual 163, 3) := by decide +kernel
theorem dX5_walk_151 : decode cX5_walk 151 = .ok (.ireturn, 1) := by decide +kernel
theorem dX5_to_0 : decode cX5_to 0 = .ok (.aload_n 0, 1) := by decide +kernel
theorem dX5_to_1 : decode cX5_to 1 = .ok (.iconst 0, 1) := by decide +kernel
theorem dX5_to_2 : decode cX5_to 2 = .ok (.putfield 58, 3) := by decide +kernel
theorem dX5_to_5 : decode cX5_to 5 = .ok (.aload_n 0, 1) := by decide +kernel
theorem dX5_to_6 : decode cX5_to 6 = .ok (.getfield 42, 3) := by decide +kernel
theorem dX5_to_9 : decode cX5_to 9 = .ok (.ireturn, 1) := by decide +kernel
theorem dX5_level_0 : decode cX5_level 0 = .ok (.aload_n 0, 1) := by decide +kernel
theorem dX5_level_1 : decode cX5_level 1 = .ok (.iconst 0, 1) := by decide +kernel
theorem dX5_level_2 : decode cX5_level 2 = .ok (.putfield 58, 3) := by decide +kernel
theorem dX5_level_5 : decode cX5_level 5 = .ok (.aload_n 0, 1) := by decide +kernel
theorem dX5_level_6 : decode cX5_level 6 = .ok (.getfield 46, 3) := by decide +kernel
theorem dX5_level_9 : decode cX5_level 9 = .ok (.ireturn, 1) := by decide +kernel
theorem dX5_plain_0 : decode cX5_plain 0 = .ok (.aload_n 0, 1) := by decide +kernel
theorem dX5_plain_1 : decode cX5_plain 1 = .ok (.iload_n 2, 1) := by decide +kernel
theorem dX5_plain_2 : decode cX5_plain 2 = .ok (.bipush 6, 2) := by decide +kernel
theorem dX5_plain_4 : decode cX5_plain 4 = .ok (.invokestatic 61, 3) := by decide +kernel
theorem dX5_plain_7 : decode cX5_plain 7 = .ok (.ifCond .ne 7, 3) := by decide +kernel
theorem dX5_plain_10 : decode cX5_plain 10 = .ok (.iconst 1, 1) := by decide +kernel
theorem dX5_plain_11 : decode cX5_plain 11 = .ok (.goto 4, 3) := by decide +kernel
theorem dX5_plain_14 : decode cX5_plain 14 = .ok (.iconst 0, 1) := by decide +kernel
theorem dX5_plain_15 : decode cX5_plain 15 = .ok (.iconst 0, 1) := by decide +kernel
theorem dX5_plain_16 : decode cX5_plain 16 = .ok (.invokevirtual 65, 3) := by decide +kernel
theorem dX5_plain_19 : decode cX5_plain 19 = .ok (.ifCond .eq 5, 3) := by decide +kernel
theorem dX5_plain_22 : decode cX5_plain 22 = .ok (.iconst 0, 1) := by decide +kernel
theorem dX5_plain_23 : decode cX5_plain 23 = .ok (.ireturn, 1) := by decide +kernel
theorem dX5_plain_24 : decode cX5_plain 24 = .ok (.aload_n 0, 1) := by decide +kernel
theorem dX5_plain_25 : decode cX5_plain 25 = .ok (.iload_n 1, 1) := by decide +kernel
theorem dX5_plain_26 : decode cX5_plain 26 = .ok (.iload_n 2, 1) := by decide +kernel
theorem dX5_plain_27 : decode cX5_plain 27 = .ok (.invokevirtual 170, 3) := by decide +kernel
theorem dX5_plain_30 : decode cX5_plain 30 = .ok (.ifCond .eq 10, 3) := by decide +kernel
theorem dX5_plain_33 : decode cX5_plain 33 = .ok (.aload_n 0, 1) := by decide +kernel
theorem dX5_plain_34 : decode cX5_plain 34 = .ok (.getfield 95, 3) := by decide +kernel
theorem dX5_plain_37 : decode cX5_plain 37 = .ok (.goto 8, 3) := by decide +kernel
theorem dX5_plain_40 : decode cX5_plain 40 = .ok (.aload_n 0, 1) := by decide +kernel
theorem dX5_plain_41 : decode cX5_plain 41 = .ok (.getfield 78, 3) := by decide +kernel
theorem dX5_plain_44 : decode cX5_plain 44 = .ok (.ineg, 1) := by decide +kernel
theorem dX5_plain_45 : decode cX5_plain 45 = .ok (.ireturn, 1) := by decide +kernel
theorem dX5_flush_0 : decode cX5_flush 0 = .ok (.aload_n 0, 1) := by decide +kernel
theorem dX5_flush_1 : decode cX5_flush 1 = .ok (.iload_n 1, 1) := by decide +kernel
theorem dX5_flush_2 : decode cX5_flush 2 = .ok (.iconst 3, 1) := by decide +kernel
theorem dX5_flush_3 : decode cX5_flush 3 = .ok (.invokestatic 61, 3) := by decide +kernel
theorem dX5_flush_6 : decode cX5_flush 6 = .ok (.ifCond .ne 7, 3) := by decide +kernel
theorem dX5_flush_9 : decode cX5_flush 9 = .ok (.iconst 1, 1) := by decide +kernel
theorem dX5_flush_10 : decode cX5_flush 10 = .ok (.goto 4, 3) := by decide +kernel
theorem dX5_flush_13 : decode cX5_flush 13 = .ok (.iconst 0, 1) := by decide +kernel
theorem dX5_flush_14 : decode cX5_flush 14 = .ok (.iconst 0, 1) := by decide +kernel
theorem dX5_flush_15 : decode cX5_flush 15 = .ok (.invokevirtual 65, 3) := by decide +kernel
theorem dX5_flush_18 : decode cX5_flush 18 = .ok (.ifCond .eq 5, 3) := by decide +kernel
theorem dX5_flush_21 : decode cX5_flush 21 = .ok (.iconst 0, 1) := by decide +kernel
theorem dX5_flush_22 : decode cX5_flush 22 = .ok (.ireturn, 1) := by decide +kernel
theorem dX5_flush_23 : decode cX5_flush 23 = .ok (.iconst 0, 1) := by decide +kernel
theorem dX5_flush_24 : decode cX5_flush 24 = .ok (.istore_n 3, 1) := by decide +kernel
theorem dX5_flush_25 : decode cX5_flush 25 = .ok (.aload_n 0, 1) := by decide +kernel
theorem dX5_flush_26 : decode cX5_flush 26 = .ok (.getfield 128, 3) := by decide +kernel
theorem dX5_flush_29 : decode cX5_flush 29 = .ok (.iconst 1, 1) := by decide +kernel
theorem dX5_flush_30 : decode cX5_flush 30 = .ok (.isub, 1) := by decide +kernel
theorem dX5_flush_31 : decode cX5_flush 31 = .ok (.istore 4, 2) := by decide +kernel
theorem dX5_flush_33 : decode cX5_flush 33 = .ok (.iload 4, 2) := by decide +kernel
theorem dX5_flush_35 : decode cX5_flush 35 = .ok (.ifCond .lt 55, 3) := by decide +kernel
theorem dX5_flush_38 : decode cX5_flush 38 = .ok (.iload_n 1, 1) := by decide +kernel
theorem dX5_flush_39 : decode cX5_flush 39 = .ok (.iconst 1, 1) := by decide +kernel
theorem dX5_flush_40 : decode cX5_flush 40 = .ok (.if_icmp .ne 17, 3) := by decide +kernel
theorem dX5_flush_43 : decode cX5_flush 43 = .ok (.aload_n 0, 1) := by decide +kernel
theorem dX5_flush_44 : decode cX5_flush 44 = .ok (.getfield 20, 3) := by decide +kernel
theorem dX5_flush_47 : decode cX5_flush 47 = .ok (.iload 4, 2) := by decide +kernel
theorem dX5_flush_49 : decode cX5_flush 49 = .ok (.iaload, 1) := by decide +kernel
theorem dX5_flush_50 : decode cX5_flush 50 = .ok (.aload_n 0, 1) := by decide +kernel
theorem dX5_flush_51 : decode cX5_flush 51 = .ok (.getfield 69, 3) := by decide +kernel
theorem dX5_flush_54 : decode cX5_flush 54 = .ok (.if_icmp .ne 30, 3) := by decide +kernel
theorem dX5_flush_57 : decode cX5_flush 57 = .ok (.iload_n 1, 1) := by decide +kernel
theorem dX5_flush_58 : decode cX5_flush 58 = .ok (.iconst 2, 1) := by decide +kernel
theorem dX5_flush_59 : decode cX5_flush 59 = .ok (.if_icmp .ne 16, 3) := by decide +kernel
theorem dX5_flush_62 : decode cX5_flush 62 = .ok (.aload_n 0, 1) := by decide +kernel
theorem dX5_flush_63 : decode cX5_flush 63 = .ok (.iload 4, 2) := by decide +kernel
theorem dX5_flush_65 : decode cX5_flush 65 = .ok (.iload_n 2, 1) := by decide +kernel
theorem dX5_flush_66 : decode cX5_flush 66 = .ok (.invokevirtual 131, 3) := by decide +kernel
theorem dX5_flush_69 : decode cX5_flush 69 = .ok (.ifCond .ne 6, 3) := by decide +kernel
theorem dX5_flush_72 : decode cX5_flush 72 = .ok (.goto 12, 3) := by decide +kernel
theorem dX5_flush_75 : decode cX5_flush 75 = .ok (.aload_n 0, 1) := by decide +kernel
theorem dX5_flush_76 : decode cX5_flush 76 = .ok (.iload 4, 2) := by decide +kernel
theorem dX5_flush_78 : decode cX5_flush 78 = .ok (.invokevirtual 137, 3) := by decide +kernel
theorem dX5_flush_81 : decode cX5_flush 81 = .ok (.iinc 3 1, 3) := by decide +kernel
theorem dX5_flush_84 : decode cX5_flush 84 = .ok (.iinc 4 (-1), 3) := by decide +kernel
theorem dX5_flush_87 : decode cX5_flush 87 = .ok (.goto (-54), 3) := by decide +kernel
theorem dX5_flush_90 : decode cX5_flush 90 = .ok (.iload_n 3, 1) := by decide +kernel
theorem dX5_flush_91 : decode cX5_flush 91 = .ok (.ireturn, 1) := by decide +kernel
theorem dX5_inOrder_0 : decode cX5_inOrder 0 = .ok (.iconst 0, 1) := by decide +kernel
theorem dX5_inOrder_1 : decode cX5_inOrder 1 = .ok (.istore_n 2, 1) := by decide +kernel
theorem dX5_inOrder_2 : decode cX5_inOrder 2 = .ok (.iload_n 2, 1) := by decide +kernel
theorem dX5_inOrder_3 : decode cX5_inOrder 3 = .ok (.aload_n 0, 1) := by decide +kernel
theorem dX5_inOrder_4 : decode cX5_inOrder 4 = .ok (.getfield 128, 3) := by decide +kernel
theorem dX5_inOrder_7 : decode cX5_inOrder 7 = .ok (.if_icmp .ge 60, 3) := by decide +kernel
theorem dX5_inOrder_10 : decode cX5_inOrder 10 = .ok (.iconst 0, 1) := by decide +kernel
theorem dX5_inOrder_11 : decode cX5_inOrder 11 = .ok (.istore_n 3, 1) := by decide +kernel
theorem dX5_inOrder_12 : decode cX5_inOrder 12 = .ok (.iconst 0, 1) := by decide +kernel
theorem dX5_inOrder_13 : decode cX5_inOrder 13 = .ok (.istore 4, 2) := by decide +kernel
theorem dX5_inOrder_15 : decode cX5_inOrder 15 = .ok (.iload 4, 2) := by decide +kernel
theorem dX5_inOrder_17 : decode cX5_inOrder 17 = .ok (.aload_n 0, 1) := by decide +kernel
theorem dX5_inOrder_18 : decode cX5_inOrder 18 = .ok (.getfield 128, 3) := by decide +kernel
theorem dX5_inOrder_21 : decode cX5_inOrder 21 = .ok (.if_icmp .ge 33, 3) := by decide +kernel
theorem dX5_inOrder_24 : decode cX5_inOrder 24 = .ok (.iload_n 3, 1) := by decide +kernel
theorem dX5_inOrder_25 : decode cX5_inOrder 25 = .ok (.aload_n 0, 1) := by decide +kernel
theorem dX5_inOrder_26 : decode cX5_inOrder 26 = .ok (.getfield 35, 3) := by decide +kernel
theorem dX5_inOrder_29 : decode cX5_inOrder 29 = .ok (.iload 4, 2) := by decide +kernel
theorem dX5_inOrder_31 : decode cX5_inOrder 31 = .ok (.iaload, 1) := by decide +kernel
theorem dX5_inOrder_32 : decode cX5_inOrder 32 = .ok (.aload_n 0, 1) := by decide +kernel
theorem dX5_inOrder_33 : decode cX5_inOrder 33 = .ok (.getfield 35, 3) := by decide +kernel
theorem dX5_inOrder_36 : decode cX5_inOrder 36 = .ok (.iload_n 2, 1) := by decide +kernel
theorem dX5_inOrder_37 : decode cX5_inOrder 37 = .ok (.iaload, 1) := by decide +kernel
theorem dX5_inOrder_38 : decode cX5_inOrder 38 = .ok (.if_icmp .le 7, 3) := by decide +kernel
theorem dX5_inOrder_41 : decode cX5_inOrder 41 = .ok (.iconst 1, 1) := by decide +kernel
theorem dX5_inOrder_42 : decode cX5_inOrder 42 = .ok (.goto 4, 3) := by decide +kernel
theorem dX5_inOrder_45 : decode cX5_inOrder 45 = .ok (.iconst 0, 1) := by decide +kernel
theorem dX5_inOrder_46 : decode cX5_inOrder 46 = .ok (.iadd, 1) := by decide +kernel
theorem dX5_inOrder_47 : decode cX5_inOrder 47 = .ok (.istore_n 3, 1) := by decide +kernel
theorem dX5_inOrder_48 : decode cX5_inOrder 48 = .ok (.iinc 4 1, 3) := by decide +kernel
theorem dX5_inOrder_51 : decode cX5_inOrder 51 = .ok (.goto (-36), 3) := by decide +kernel
theorem dX5_inOrder_54 : decode cX5_inOrder 54 = .ok (.iload_n 3, 1) := by decide +kernel
theorem dX5_inOrder_55 : decode cX5_inOrder 55 = .ok (.iload_n 1, 1) := by decide +kernel
theorem dX5_inOrder_56 : decode cX5_inOrder 56 = .ok (.if_icmp .ne 5, 3) := by decide +kernel
theorem dX5_inOrder_59 : decode cX5_inOrder 59 = .ok (.iload_n 2, 1) := by decide +kernel
theorem dX5_inOrder_60 : decode cX5_inOrder 60 = .ok (.ireturn, 1) := by decide +kernel
theorem dX5_inOrder_61 : decode cX5_inOrder 61 = .ok (.iinc 2 1, 3) := by decide +kernel
theorem dX5_inOrder_64 : decode cX5_inOrder 64 = .ok (.goto (-62), 3) := by decide +kernel
theorem dX5_inOrder_67 : decode cX5_inOrder 67 = .ok (.iconst (-1), 1) := by decide +kernel
theorem dX5_inOrder_68 : decode cX5_inOrder 68 = .ok (.ireturn, 1) := by decide +kernel
theorem dX5_kept_0 : decode cX5_kept 0 = .ok (.aload_n 0, 1) := by decide +kernel
theorem dX5_kept_1 : decode cX5_kept 1 = .ok (.iload_n 1, 1) := by decide +kernel
theorem dX5_kept_2 : decode cX5_kept 2 = .ok (.aload_n 0, 1) := by decide +kernel
theorem dX5_kept_3 : decode cX5_kept 3 = .ok (.getfield 128, 3) := by decide +kernel
theorem dX5_kept_6 : decode cX5_kept 6 = .ok (.invokestatic 61, 3) := by decide +kernel
theorem dX5_kept_9 : decode cX5_kept 9 = .ok (.ifCond .eq 12, 3) := by decide +kernel
theorem dX5_kept_12 : decode cX5_kept 12 = .ok (.iload_n 2, 1) := by decide +kernel
theorem dX5_kept_13 : decode cX5_kept 13 = .ok (.bipush 6, 2) := by decide +kernel
theorem dX5_kept_15 : decode cX5_kept 15 = .ok (.invokestatic 61, 3) := by decide +kernel
theorem dX5_kept_18 : decode cX5_kept 18 = .ok (.ifCond .ne 7, 3) := by decide +kernel
theorem dX5_kept_21 : decode cX5_kept 21 = .ok (.iconst 1, 1) := by decide +kernel
theorem dX5_kept_22 : decode cX5_kept 22 = .ok (.goto 4, 3) := by decide +kernel
theorem dX5_kept_25 : decode cX5_kept 25 = .ok (.iconst 0, 1) := by decide +kernel
theorem dX5_kept_26 : decode cX5_kept 26 = .ok (.iconst 0, 1) := by decide +kernel
theorem dX5_kept_27 : decode cX5_kept 27 = .ok (.invokevirtual 65, 3) := by decide +kernel
theorem dX5_kept_30 : decode cX5_kept 30 = .ok (.ifCond .eq 5, 3) := by decide +kernel
theorem dX5_kept_33 : decode cX5_kept 33 = .ok (.iconst 0, 1) := by decide +kernel
theorem dX5_kept_34 : decode cX5_kept 34 = .ok (.ireturn, 1) := by decide +kernel
theorem dX5_kept_35 : decode cX5_kept 35 = .ok (.aload_n 0, 1) := by decide +kernel
theorem dX5_kept_36 : decode cX5_kept 36 = .ok (.iload_n 1, 1) := by decide +kernel
theorem dX5_kept_37 : decode cX5_kept 37 = .ok (.invokevirtual 182, 3) := by decide +kernel
theorem dX5_kept_40 : decode cX5_kept 40 = .ok (.istore_n 3, 1) := by decide +kernel
theorem dX5_kept_41 : decode cX5_kept 41 = .ok (.iload_n 2, 1) := by decide +kernel
theorem dX5_kept_42 : decode cX5_kept 42 = .ok (.tableswitch 69 0 4 #[34, 41, 48, 55, 62], 34) := by decide +kernel
theorem dX5_kept_76 : decode cX5_kept 76 = .ok (.aload_n 0, 1) := by decide +kernel
theorem dX5_kept_77 : decode cX5_kept 77 = .ok (.getfield 20, 3) := by decide +kernel
theorem dX5_kept_80 : decode cX5_kept 80 = .ok (.iload_n 3, 1) := by decide +kernel
theorem dX5_kept_81 : decode cX5_kept 81 = .ok (.iaload, 1) := by decide +kernel
theorem dX5_kept_82 : decode cX5_kept 82 = .ok (.ireturn, 1) := by decide +kernel
theorem dX5_kept_83 : decode cX5_kept 83 = .ok (.aload_n 0, 1) := by decide +kernel
theorem dX5_kept_84 : decode cX5_kept 84 = .ok (.getfield 23, 3) := by decide +kernel
theorem dX5_kept_87 : decode cX5_kept 87 = .ok (.iload_n 3, 1) := by decide +kernel
theorem dX5_kept_88 : decode cX5_kept 88 = .ok (.iaload, 1) := by decide +kernel
theorem dX5_kept_89 : decode cX5_kept 89 = .ok (.ireturn, 1) := by decide +kernel
theorem dX5_kept_90 : decode cX5_kept 90 = .ok (.aload_n 0, 1) := by decide +kernel
theorem dX5_kept_91 : decode cX5_kept 91 = .ok (.getfield 26, 3) := by decide +kernel
theorem dX5_kept_94 : decode cX5_kept 94 = .ok (.iload_n 3, 1) := by decide +kernel
theorem dX5_kept_95 : decode cX5_kept 95 = .ok (.iaload, 1) := by decide +kernel
theorem dX5_kept_96 : decode cX5_kept 96 = .ok (.ireturn, 1) := by decide +kernel
theorem dX5_kept_97 : decode cX5_kept 97 = .ok (.aload_n 0, 1) := by decide +kernel
theorem dX5_kept_98 : decode cX5_kept 98 = .ok (.getfield 29, 3) := by decide +kernel
theorem dX5_kept_101 : decode cX5_kept 101 = .ok (.iload_n 3, 1) := by decide +kernel
theorem dX5_kept_102 : decode cX5_kept 102 = .ok (.iaload, 1) := by decide +kernel
theorem dX5_kept_103 : decode cX5_kept 103 = .ok (.ireturn, 1) := by decide +kernel
theorem dX5_kept_104 : decode cX5_kept 104 = .ok (.aload_n 0, 1) := by decide +kernel
theorem dX5_kept_105 : decode cX5_kept 105 = .ok (.getfield 32, 3) := by decide +kernel
theorem dX5_kept_108 : decode cX5_kept 108 = .ok (.iload_n 3, 1) := by decide +kernel
theorem dX5_kept_109 : decode cX5_kept 109 = .ok (.iaload, 1) := by decide +kernel
theorem dX5_kept_110 : decode cX5_kept 110 = .ok (.ireturn, 1) := by decide +kernel
theorem dX5_kept_111 : decode cX5_kept 111 = .ok (.aload_n 0, 1) := by decide +kernel
theorem dX5_kept_112 : decode cX5_kept 112 = .ok (.getfield 38, 3) := by decide +kernel
theorem dX5_kept_115 : decode cX5_kept 115 = .ok (.iload_n 3, 1) := by decide +kernel
theorem dX5_kept_116 : decode cX5_kept 116 = .ok (.baload, 1) := by decide +kernel
theorem dX5_kept_117 : decode cX5_kept 117 = .ok (.ifCond .eq 7, 3) := by decide +kernel
theorem dX5_kept_120 : decode cX5_kept 120 = .ok (.iconst 1, 1) := by decide +kernel
theorem dX5_kept_121 : decode cX5_kept 121 = .ok (.goto 4, 3) := by decide +kernel
theorem dX5_kept_124 : decode cX5_kept 124 = .ok (.iconst 0, 1) := by decide +kernel
theorem dX5_kept_125 : decode cX5_kept 125 = .ok (.ireturn, 1) := by decide +kernel
theorem dX5_isStale_0 : decode cX5_isStale 0 = .ok (.aload_n 0, 1) := by decide +kernel
theorem dX5_isStale_1 : decode cX5_isStale 1 = .ok (.getfield 26, 3) := by decide +kernel
theorem dX5_isStale_4 : decode cX5_isStale 4 = .ok (.iload_n 1, 1) := by decide +kernel
theorem dX5_isStale_5 : decode cX5_isStale 5 = .ok (.iaload, 1) := by decide +kernel
theorem dX5_isStale_6 : decode cX5_isStale 6 = .ok (.bipush 8, 2) := by decide +kernel
theorem dX5_isStale_8 : decode cX5_isStale 8 = .ok (.iconst 4, 1) := by decide +kernel
theorem dX5_isStale_9 : decode cX5_isStale 9 = .ok (.aload_n 0, 1) := by decide +kernel
theorem dX5_isStale_10 : decode cX5_isStale 10 = .ok (.getfield 23, 3) := by decide +kernel
theorem dX5_isStale_13 : decode cX5_isStale 13 = .ok (.iload_n 1, 1) := by decide +kernel
theorem dX5_isStale_14 : decode cX5_isStale 14 = .ok (.iaload, 1) := by decide +kernel
theorem dX5_isStale_15 : decode cX5_isStale 15 = .ok (.imul, 1) := by decide +kernel
theorem dX5_isStale_16 : decode cX5_isStale 16 = .ok (.iadd, 1) := by decide +kernel
theorem dX5_isStale_17 : decode cX5_isStale 17 = .ok (.ishl, 1) := by decide +kernel
theorem dX5_isStale_18 : decode cX5_isStale 18 = .ok (.istore_n 3, 1) := by decide +kernel
theorem dX5_isStale_19 : decode cX5_isStale 19 = .ok (.aload_n 0, 1) := by decide +kernel
theorem dX5_isStale_20 : decode cX5_isStale 20 = .ok (.iload_n 3, 1) := by decide +kernel
theorem dX5_isStale_21 : decode cX5_isStale 21 = .ok (.iload_n 2, 1) := by decide +kernel
theorem dX5_isStale_22 : decode cX5_isStale 22 = .ok (.invokevirtual 170, 3) := by decide +kernel
theorem dX5_isStale_25 : decode cX5_isStale 25 = .ok (.istore 4, 2) := by decide +kernel
theorem dX5_isStale_27 : decode cX5_isStale 27 = .ok (.aload_n 0, 1) := by decide +kernel
theorem dX5_isStale_28 : decode cX5_isStale 28 = .ok (.getfield 95, 3) := by decide +kernel
theorem dX5_isStale_31 : decode cX5_isStale 31 = .ok (.istore 5, 2) := by decide +kernel
theorem dX5_isStale_33 : decode cX5_isStale 33 = .ok (.aload_n 0, 1) := by decide +kernel
theorem dX5_isStale_34 : decode cX5_isStale 34 = .ok (.getfield 32, 3) := by decide +kernel
theorem dX5_isStale_37 : decode cX5_isStale 37 = .ok (.iload_n 1, 1) := by decide +kernel
theorem dX5_isStale_38 : decode cX5_isStale 38 = .ok (.iaload, 1) := by decide +kernel
theorem dX5_isStale_39 : decode cX5_isStale 39 = .ok (.iload_n 2, 1) := by decide +kernel
theorem dX5_isStale_40 : decode cX5_isStale 40 = .ok (.invokestatic 113, 3) := by decide +kernel
theorem dX5_isStale_43 : decode cX5_isStale 43 = .ok (.ifCond .eq 27, 3) := by decide +kernel
theorem dX5_isStale_46 : decode cX5_isStale 46 = .ok (.aload_n 0, 1) := by decide +kernel
theorem dX5_isStale_47 : decode cX5_isStale 47 = .ok (.aload_n 0, 1) := by decide +kernel
theorem dX5_isStale_48 : decode cX5_isStale 48 = .ok (.getfield 29, 3) := by decide +kernel
theorem dX5_isStale_51 : decode cX5_isStale 51 = .ok (.iload_n 1, 1) := by decide +kernel
theorem dX5_isStale_52 : decode cX5_isStale 52 = .ok (.iaload, 1) := by decide +kernel
theorem dX5_isStale_53 : decode cX5_isStale 53 = .ok (.aload_n 0, 1) := by decide +kernel
theorem dX5_isStale_54 : decode cX5_isStale 54 = .ok (.getfield 23, 3) := by decide +kernel
theorem dX5_isStale_57 : decode cX5_isStale 57 = .ok (.iload_n 1, 1) := by decide +kernel
theorem dX5_isStale_58 : decode cX5_isStale 58 = .ok (.iaload, 1) := by decide +kernel
theorem dX5_isStale_59 : decode cX5_isStale 59 = .ok (.iload_n 3, 1) := by decide +kernel
theorem dX5_isStale_60 : decode cX5_isStale 60 = .ok (.invokevirtual 124, 3) := by decide +kernel
theorem dX5_isStale_63 : decode cX5_isStale 63 = .ok (.ifCond .eq 7, 3) := by decide +kernel
theorem dX5_isStale_66 : decode cX5_isStale 66 = .ok (.iconst 1, 1) := by decide +kernel
theorem dX5_isStale_67 : decode cX5_isStale 67 = .ok (.goto 4, 3) := by decide +kernel
theorem dX5_isStale_70 : decode cX5_isStale 70 = .ok (.iconst 0, 1) := by decide +kernel
theorem dX5_isStale_71 : decode cX5_isStale 71 = .ok (.istore 6, 2) := by decide +kernel
theorem dX5_isStale_73 : decode cX5_isStale 73 = .ok (.iload 4, 2) := by decide +kernel
theorem dX5_isStale_75 : decode cX5_isStale 75 = .ok (.iload 6, 2) := by decide +kernel
theorem dX5_isStale_77 : decode cX5_isStale 77 = .ok (.if_icmp .ne 17, 3) := by decide +kernel
theorem dX5_isStale_80 : decode cX5_isStale 80 = .ok (.iload 4, 2) := by decide +kernel
theorem dX5_isStale_82 : decode cX5_isStale 82 = .ok (.ifCond .eq 16, 3) := by decide +kernel
theorem dX5_isStale_85 : decode cX5_isStale 85 = .ok (.iload 5, 2) := by decide +kernel
theorem dX5_isStale_87 : decode cX5_isStale 87 = .ok (.aload_n 0, 1) := by decide +kernel
theorem dX5_isStale_88 : decode cX5_isStale 88 = .ok (.getfield 95, 3) := by decide +kernel
theorem dX5_isStale_91 : decode cX5_isStale 91 = .ok (.if_icmp .eq 7, 3) := by decide +kernel
theorem dX5_isStale_94 : decode cX5_isStale 94 = .ok (.iconst 1, 1) := by decide +kernel
theorem dX5_isStale_95 : decode cX5_isStale 95 = .ok (.goto 4, 3) := by decide +kernel
theorem dX5_isStale_98 : decode cX5_isStale 98 = .ok (.iconst 0, 1) := by decide +kernel
theorem dX5_isStale_99 : decode cX5_isStale 99 = .ok (.ireturn, 1) := by decide +kernel
theorem dX5_stale_0 : decode cX5_stale 0 = .ok (.aload_n 0, 1) := by decide +kernel
theorem dX5_stale_1 : decode cX5_stale 1 = .ok (.iload_n 1, 1) := by decide +kernel
theorem dX5_stale_2 : decode cX5_stale 2 = .ok (.bipush 6, 2) := by decide +kernel
theorem dX5_stale_4 : decode cX5_stale 4 = .ok (.invokestatic 61, 3) := by decide +kernel
theorem dX5_stale_7 : decode cX5_stale 7 = .ok (.ifCond .ne 7, 3) := by decide +kernel
theorem dX5_stale_10 : decode cX5_stale 10 = .ok (.iconst 1, 1) := by decide +kernel
theorem dX5_stale_11 : decode cX5_stale 11 = .ok (.goto 4, 3) := by decide +kernel
theorem dX5_stale_14 : decode cX5_stale 14 = .ok (.iconst 0, 1) := by decide +kernel
theorem dX5_stale_15 : decode cX5_stale 15 = .ok (.iconst 0, 1) := by decide +kernel
theorem dX5_stale_16 : decode cX5_stale 16 = .ok (.invokevirtual 65, 3) := by decide +kernel
theorem dX5_stale_19 : decode cX5_stale 19 = .ok (.ifCond .eq 5, 3) := by decide +kernel
theorem dX5_stale_22 : decode cX5_stale 22 = .ok (.iconst 0, 1) := by decide +kernel
theorem dX5_stale_23 : decode cX5_stale 23 = .ok (.ireturn, 1) := by decide +kernel
theorem dX5_stale_24 : decode cX5_stale 24 = .ok (.iconst 0, 1) := by decide +kernel
theorem dX5_stale_25 : decode cX5_stale 25 = .ok (.istore_n 2, 1) := by decide +kernel
theorem dX5_stale_26 : decode cX5_stale 26 = .ok (.iconst 0, 1) := by decide +kernel
theorem dX5_stale_27 : decode cX5_stale 27 = .ok (.istore_n 3, 1) := by decide +kernel
theorem dX5_stale_28 : decode cX5_stale 28 = .ok (.iload_n 3, 1) := by decide +kernel
theorem dX5_stale_29 : decode cX5_stale 29 = .ok (.aload_n 0, 1) := by decide +kernel
theorem dX5_stale_30 : decode cX5_stale 30 = .ok (.getfield 128, 3) := by decide +kernel
theorem dX5_stale_33 : decode cX5_stale 33 = .ok (.if_icmp .ge 39, 3) := by decide +kernel
theorem dX5_stale_36 : decode cX5_stale 36 = .ok (.iload_n 2, 1) := by decide +kernel
theorem dX5_stale_37 : decode cX5_stale 37 = .ok (.aload_n 0, 1) := by decide +kernel
theorem dX5_stale_38 : decode cX5_stale 38 = .ok (.getfield 20, 3) := by decide +kernel
theorem dX5_stale_41 : decode cX5_stale 41 = .ok (.iload_n 3, 1) := by decide +kernel
theorem dX5_stale_42 : decode cX5_stale 42 = .ok (.iaload, 1) := by decide +kernel
theorem dX5_stale_43 : decode cX5_stale 43 = .ok (.aload_n 0, 1) := by decide +kernel
theorem dX5_stale_44 : decode cX5_stale 44 = .ok (.getfield 69, 3) := by decide +kernel
theorem dX5_stale_47 : decode cX5_stale 47 = .ok (.if_icmp .ne 16, 3) := by decide +kernel
theorem dX5_stale_50 : decode cX5_stale 50 = .ok (.aload_n 0, 1) := by decide +kernel
theorem dX5_stale_51 : decode cX5_stale 51 = .ok (.iload_n 3, 1) := by decide +kernel
theorem dX5_stale_52 : decode cX5_stale 52 = .ok (.iload_n 1, 1) := by decide +kernel
theorem dX5_stale_53 : decode cX5_stale 53 = .ok (.invokevirtual 185, 3) := by decide +kernel
theorem dX5_stale_56 : decode cX5_stale 56 = .ok (.ifCond .eq 7, 3) := by decide +kernel
theorem dX5_stale_59 : decode cX5_stale 59 = .ok (.iconst 1, 1) := by decide +kernel
theorem dX5_stale_60 : decode cX5_stale 60 = .ok (.goto 4, 3) := by decide +kernel
theorem dX5_stale_63 : decode cX5_stale 63 = .ok (.iconst 0, 1) := by decide +kernel
theorem dX5_stale_64 : decode cX5_stale 64 = .ok (.iadd, 1) := by decide +kernel
theorem dX5_stale_65 : decode cX5_stale 65 = .ok (.istore_n 2, 1) := by decide +kernel
theorem dX5_stale_66 : decode cX5_stale 66 = .ok (.iinc 3 1, 3) := by decide +kernel
theorem dX5_stale_69 : decode cX5_stale 69 = .ok (.goto (-41), 3) := by decide +kernel
theorem dX5_stale_72 : decode cX5_stale 72 = .ok (.iload_n 2, 1) := by decide +kernel
theorem dX5_stale_73 : decode cX5_stale 73 = .ok (.ireturn, 1) := by decide +kernel
theorem dX5_count_0 : decode cX5_count 0 = .ok (.aload_n 0, 1) := by decide +kernel
theorem dX5_count_1 : decode cX5_count 1 = .ok (.iconst 0, 1) := by decide +kernel
theorem dX5_count_2 : decode cX5_count 2 = .ok (.putfield 58, 3) := by decide +kernel
theorem dX5_count_5 : decode cX5_count 5 = .ok (.iload_n 1, 1) := by decide +kernel
theorem dX5_count_6 : decode cX5_count 6 = .ok (.tableswitch 95 0 8 #[50, 55, 60, 65, 70, 75, 80, 85, 90], 50) := by decide +kernel
theorem dX5_count_56 : decode cX5_count 56 = .ok (.aload_n 0, 1) := by decide +kernel
theorem dX5_count_57 : decode cX5_count 57 = .ok (.getfield 52, 3) := by decide +kernel
theorem dX5_count_60 : decode cX5_count 60 = .ok (.ireturn, 1) := by decide +kernel
theorem dX5_count_61 : decode cX5_count 61 = .ok (.aload_n 0, 1) := by decide +kernel
theorem dX5_count_62 : decode cX5_count 62 = .ok (.getfield 55, 3) := by decide +kernel
theorem dX5_count_65 : decode cX5_count 65 = .ok (.ireturn, 1) := by decide +kernel
theorem dX5_count_66 : decode cX5_count 66 = .ok (.aload_n 0, 1) := by decide +kernel
theorem dX5_count_67 : decode cX5_count 67 = .ok (.getfield 128, 3) := by decide +kernel
theorem dX5_count_70 : decode cX5_count 70 = .ok (.ireturn, 1) := by decide +kernel
theorem dX5_count_71 : decode cX5_count 71 = .ok (.aload_n 0, 1) := by decide +kernel
theorem dX5_count_72 : decode cX5_count 72 = .ok (.getfield 69, 3) := by decide +kernel
theorem dX5_count_75 : decode cX5_count 75 = .ok (.ireturn, 1) := by decide +kernel
theorem dX5_count_76 : decode cX5_count 76 = .ok (.aload_n 0, 1) := by decide +kernel
theorem dX5_count_77 : decode cX5_count 77 = .ok (.getfield 173, 3) := by decide +kernel
theorem dX5_count_80 : decode cX5_count 80 = .ok (.ireturn, 1) := by decide +kernel
theorem dX5_count_81 : decode cX5_count 81 = .ok (.aload_n 0, 1) := by decide +kernel
theorem dX5_count_82 : decode cX5_count 82 = .ok (.getfield 154, 3) := by decide +kernel
theorem dX5_count_85 : decode cX5_count 85 = .ok (.ireturn, 1) := by decide +kernel
theorem dX5_count_86 : decode cX5_count 86 = .ok (.aload_n 0, 1) := by decide +kernel
theorem dX5_count_87 : decode cX5_count 87 = .ok (.getfield 167, 3) := by decide +kernel
theorem dX5_count_90 : decode cX5_count 90 = .ok (.ireturn, 1) := by decide +kernel
theorem dX5_count_91 : decode cX5_count 91 = .ok (.aload_n 0, 1) := by decide +kernel
theorem dX5_count_92 : decode cX5_count 92 = .ok (.getfield 151, 3) := by decide +kernel
theorem dX5_count_95 : decode cX5_count 95 = .ok (.ireturn, 1) := by decide +kernel
theorem dX5_count_96 : decode cX5_count 96 = .ok (.aload_n 0, 1) := by decide +kernel
theorem dX5_count_97 : decode cX5_count 97 = .ok (.getfield 141, 3) := by decide +kernel
theorem dX5_count_100 : decode cX5_count 100 = .ok (.ireturn, 1) := by decide +kernel
theorem dX5_count_101 : decode cX5_count 101 = .ok (.iconst (-1), 1) := by decide +kernel
theorem dX5_count_102 : decode cX5_count 102 = .ok (.ireturn, 1) := by decide +kernel
end
section
theorem dL_cell_0 : decode cL_cell 0 = .ok (.iload_n 1, 1) := by decide +kernel
theorem dL_cell_1 : decode cL_cell 1 = .ok (.aload_n 0, 1) := by decide +kernel
theorem dL_cell_2 : decode cL_cell 2 = .ok (.arraylength, 1) := by decide +kernel
theorem dL_cell_3 : decode cL_cell 3 = .ok (.if_icmp .ge 9, 3) := by decide +kernel
theorem dL_cell_6 : decode cL_cell 6 = .ok (.aload_n 0, 1) := by decide +kernel
theorem dL_cell_7 : decode cL_cell 7 = .ok (.iload_n 1, 1) := by decide +kernel
theorem dL_cell_8 : decode cL_cell 8 = .ok (.iaload, 1) := by decide +kernel
theorem dL_cell_9 : decode cL_cell 9 = .ok (.goto 4, 3) := by decide +kernel
theorem dL_cell_12 : decode cL_cell 12 = .ok (.iconst 0, 1) := by decide +kernel
theorem dL_cell_13 : decode cL_cell 13 = .ok (.ireturn, 1) := by decide +kernel
theorem dL_table_0 : decode cL_table 0 = .ok (.aload 4, 2) := by decide +kernel
theorem dL_table_2 : decode cL_table 2 = .ok (.iconst 0, 1) := by decide +kernel
theorem dL_table_3 : decode cL_table 3 = .ok (.aload_n 0, 1) := by decide +kernel
theorem dL_table_4 : decode cL_table 4 = .ok (.iload_n 1, 1) := by decide +kernel
theorem dL_table_5 : decode cL_table 5 = .ok (.lload_n 2, 1) := by decide +kernel
theorem dL_table_6 : decode cL_table 6 = .ok (.invokevirtual 7, 3) := by decide +kernel
theorem dL_table_9 : decode cL_table 9 = .ok (.lastore, 1) := by decide +kernel
theorem dL_table_10 : decode cL_table 10 = .ok (.goto 7, 3) := by decide +kernel
theorem dL_table_13 : decode cL_table 13 = .ok (.astore 5, 2) := by decide +kernel
theorem dL_table_15 : decode cL_table 15 = .ok (.iconst 1, 1) := by decide +kernel
theorem dL_table_16 : decode cL_table 16 = .ok (.ireturn, 1) := by decide +kernel
theorem dL_table_17 : decode cL_table 17 = .ok (.iconst 0, 1) := by decide +kernel
theorem dL_table_18 : decode cL_table 18 = .ok (.ireturn, 1) := by decide +kernel
theorem dL_word_0 : decode cL_word 0 = .ok (.aload_n 2, 1) := by decide +kernel
theorem dL_word_1 : decode cL_word 1 = .ok (.iconst 0, 1) := by decide +kernel
theorem dL_word_2 : decode cL_word 2 = .ok (.aload_n 0, 1) := by decide +kernel
theorem dL_word_3 : decode cL_word 3 = .ok (.iload_n 1, 1) := by decide +kernel
theorem dL_word_4 : decode cL_word 4 = .ok (.invokevirtual 15, 3) := by decide +kernel
theorem dL_word_7 : decode cL_word 7 = .ok (.lastore, 1) := by decide +kernel
theorem dL_word_8 : decode cL_word 8 = .ok (.goto 6, 3) := by decide +kernel
theorem dL_word_11 : decode cL_word 11 = .ok (.astore_n 3, 1) := by decide +kernel
theorem dL_word_12 : decode cL_word 12 = .ok (.iconst 1, 1) := by decide +kernel
theorem dL_word_13 : decode cL_word 13 = .ok (.ireturn, 1) := by decide +kernel
theorem dL_word_14 : decode cL_word 14 = .ok (.iconst 0, 1) := by decide +kernel
theorem dL_word_15 : decode cL_word 15 = .ok (.ireturn, 1) := by decide +kernel
theorem dL_context_0 : decode cL_context 0 = .ok (.aload_n 2, 1) := by decide +kernel
theorem dL_context_1 : decode cL_context 1 = .ok (.iconst 0, 1) := by decide +kernel
theorem dL_context_2 : decode cL_context 2 = .ok (.aload_n 0, 1) := by decide +kernel
theorem dL_context_3 : decode cL_context 3 = .ok (.iload_n 1, 1) := by decide +kernel
theorem dL_context_4 : decode cL_context 4 = .ok (.invokevirtual 19, 3) := by decide +kernel
theorem dL_context_7 : decode cL_context 7 = .ok (.i2l, 1) := by decide +kernel
theorem dL_context_8 : decode cL_context 8 = .ok (.lastore, 1) := by decide +kernel
theorem dL_context_9 : decode cL_context 9 = .ok (.goto 6, 3) := by decide +kernel
theorem dL_context_12 : decode cL_context 12 = .ok (.astore_n 3, 1) := by decide +kernel
theorem dL_context_13 : decode cL_context 13 = .ok (.iconst 1, 1) := by decide +kernel
theorem dL_context_14 : decode cL_context 14 = .ok (.ireturn, 1) := by decide +kernel
theorem dL_context_15 : decode cL_context 15 = .ok (.iconst 0, 1) := by decide +kernel
theorem dL_context_16 : decode cL_context 16 = .ok (.ireturn, 1) := by decide +kernel
theorem dL_root_0 : decode cL_root 0 = .ok (.aload_n 3, 1) := by decide +kernel
theorem dL_root_1 : decode cL_root 1 = .ok (.iconst 0, 1) := by decide +kernel
theorem dL_root_2 : decode cL_root 2 = .ok (.aload_n 0, 1) := by decide +kernel
theorem dL_root_3 : decode cL_root 3 = .ok (.iload_n 1, 1) := by decide +kernel
theorem dL_root_4 : decode cL_root 4 = .ok (.iload_n 2, 1) := by decide +kernel
theorem dL_root_5 : decode cL_root 5 = .ok (.invokevirtual 23, 3) := by decide +kernel
theorem dL_root_8 : decode cL_root 8 = .ok (.i2l, 1) := by decide +kernel
theorem dL_root_9 : decode cL_root 9 = .ok (.lastore, 1) := by decide +kernel
theorem dL_root_10 : decode cL_root 10 = .ok (.goto 11, 3) := by decide +kernel
theorem dL_root_13 : decode cL_root 13 = .ok (.astore 4, 2) := by decide +kernel
theorem dL_root_15 : decode cL_root 15 = .ok (.iconst 1, 1) := by decide +kernel
theorem dL_root_16 : decode cL_root 16 = .ok (.ireturn, 1) := by decide +kernel
theorem dL_root_17 : decode cL_root 17 = .ok (.astore 4, 2) := by decide +kernel
theorem dL_root_19 : decode cL_root 19 = .ok (.iconst 2, 1) := by decide +kernel
theorem dL_root_20 : decode cL_root 20 = .ok (.ireturn, 1) := by decide +kernel
theorem dL_root_21 : decode cL_root 21 = .ok (.iconst 0, 1) := by decide +kernel
theorem dL_root_22 : decode cL_root 22 = .ok (.ireturn, 1) := by decide +kernel
theorem dL_host_0 : decode cL_host 0 = .ok (.aload_n 3, 1) := by decide +kernel
theorem dL_host_1 : decode cL_host 1 = .ok (.iconst 0, 1) := by decide +kernel
theorem dL_host_2 : decode cL_host 2 = .ok (.aload_n 0, 1) := by decide +kernel
theorem dL_host_3 : decode cL_host 3 = .ok (.iload_n 1, 1) := by decide +kernel
theorem dL_host_4 : decode cL_host 4 = .ok (.iload_n 2, 1) := by decide +kernel
theorem dL_host_5 : decode cL_host 5 = .ok (.invokevirtual 29, 3) := by decide +kernel
theorem dL_host_8 : decode cL_host 8 = .ok (.i2l, 1) := by decide +kernel
theorem dL_host_9 : decode cL_host 9 = .ok (.lastore, 1) := by decide +kernel
theorem dL_host_10 : decode cL_host 10 = .ok (.goto 11, 3) := by decide +kernel
theorem dL_host_13 : decode cL_host 13 = .ok (.astore 4, 2) := by decide +kernel
theorem dL_host_15 : decode cL_host 15 = .ok (.iconst 1, 1) := by decide +kernel
theorem dL_host_16 : decode cL_host 16 = .ok (.ireturn, 1) := by decide +kernel
theorem dL_host_17 : decode cL_host 17 = .ok (.astore 4, 2) := by decide +kernel
theorem dL_host_19 : decode cL_host 19 = .ok (.iconst 2, 1) := by decide +kernel
theorem dL_host_20 : decode cL_host 20 = .ok (.ireturn, 1) := by decide +kernel
theorem dL_host_21 : decode cL_host 21 = .ok (.iconst 0, 1) := by decide +kernel
theorem dL_host_22 : decode cL_host 22 = .ok (.ireturn, 1) := by decide +kernel
theorem dL_walk_0 : decode cL_walk 0 = .ok (.aload_n 3, 1) := by decide +kernel
theorem dL_walk_1 : decode cL_walk 1 = .ok (.iconst 0, 1) := by decide +kernel
theorem dL_walk_2 : decode cL_walk 2 = .ok (.aload_n 0, 1) := by decide +kernel
theorem dL_walk_3 : decode cL_walk 3 = .ok (.iload_n 1, 1) := by decide +kernel
theorem dL_walk_4 : decode cL_walk 4 = .ok (.iload_n 2, 1) := by decide +kernel
theorem dL_walk_5 : decode cL_walk 5 = .ok (.invokevirtual 32, 3) := by decide +kernel
theorem dL_walk_8 : decode cL_walk 8 = .ok (.i2l, 1) := by decide +kernel
theorem dL_walk_9 : decode cL_walk 9 = .ok (.lastore, 1) := by decide +kernel
theorem dL_walk_10 : decode cL_walk 10 = .ok (.goto 7, 3) := by decide +kernel
theorem dL_walk_13 : decode cL_walk 13 = .ok (.astore 4, 2) := by decide +kernel
theorem dL_walk_15 : decode cL_walk 15 = .ok (.iconst 1, 1) := by decide +kernel
theorem dL_walk_16 : decode cL_walk 16 = .ok (.ireturn, 1) := by decide +kernel
theorem dL_walk_17 : decode cL_walk 17 = .ok (.iconst 0, 1) := by decide +kernel
theorem dL_walk_18 : decode cL_walk 18 = .ok (.ireturn, 1) := by decide +kernel
theorem dL_plain_0 : decode cL_plain 0 = .ok (.aload_n 3, 1) := by decide +kernel
theorem dL_plain_1 : decode cL_plain 1 = .ok (.iconst 0, 1) := by decide +kernel
theorem dL_plain_2 : decode cL_plain 2 = .ok (.aload_n 0, 1) := by decide +kernel
theorem dL_plain_3 : decode cL_plain 3 = .ok (.iload_n 1, 1) := by decide +kernel
theorem dL_plain_4 : decode cL_plain 4 = .ok (.iload_n 2, 1) := by decide +kernel
theorem dL_plain_5 : decode cL_plain 5 = .ok (.invokevirtual 35, 3) := by decide +kernel
theorem dL_plain_8 : decode cL_plain 8 = .ok (.i2l, 1) := by decide +kernel
theorem dL_plain_9 : decode cL_plain 9 = .ok (.lastore, 1) := by decide +kernel
theorem dL_plain_10 : decode cL_plain 10 = .ok (.goto 7, 3) := by decide +kernel
theorem dL_plain_13 : decode cL_plain 13 = .ok (.astore 4, 2) := by decide +kernel
theorem dL_plain_15 : decode cL_plain 15 = .ok (.iconst 1, 1) := by decide +kernel
theorem dL_plain_16 : decode cL_plain 16 = .ok (.ireturn, 1) := by decide +kernel
theorem dL_plain_17 : decode cL_plain 17 = .ok (.iconst 0, 1) := by decide +kernel
theorem dL_plain_18 : decode cL_plain 18 = .ok (.ireturn, 1) := by decide +kernel
theorem dL_flush_0 : decode cL_flush 0 = .ok (.aload_n 3, 1) := by decide +kernel
theorem dL_flush_1 : decode cL_flush 1 = .ok (.iconst 0, 1) := by decide +kernel
theorem dL_flush_2 : decode cL_flush 2 = .ok (.aload_n 0, 1) := by decide +kernel
theorem dL_flush_3 : decode cL_flush 3 = .ok (.iload_n 1, 1) := by decide +kernel
theorem dL_flush_4 : decode cL_flush 4 = .ok (.iload_n 2, 1) := by decide +kernel
theorem dL_flush_5 : decode cL_flush 5 = .ok (.invokevirtual 38, 3) := by decide +kernel
theorem dL_flush_8 : decode cL_flush 8 = .ok (.i2l, 1) := by decide +kernel
theorem dL_flush_9 : decode cL_flush 9 = .ok (.lastore, 1) := by decide +kernel
theorem dL_flush_10 : decode cL_flush 10 = .ok (.goto 7, 3) := by decide +kernel
theorem dL_flush_13 : decode cL_flush 13 = .ok (.astore 4, 2) := by decide +kernel
theorem dL_flush_15 : decode cL_flush 15 = .ok (.iconst 1, 1) := by decide +kernel
theorem dL_flush_16 : decode cL_flush 16 = .ok (.ireturn, 1) := by decide +kernel
theorem dL_flush_17 : decode cL_flush 17 = .ok (.iconst 0, 1) := by decide +kernel
theorem dL_flush_18 : decode cL_flush 18 = .ok (.ireturn, 1) := by decide +kernel
theorem dL_kept_0 : decode cL_kept 0 = .ok (.aload_n 3, 1) := by decide +kernel
theorem dL_kept_1 : decode cL_kept 1 = .ok (.iconst 0, 1) := by decide +kernel
theorem dL_kept_2 : decode cL_kept 2 = .ok (.aload_n 0, 1) := by decide +kernel
theorem dL_kept_3 : decode cL_kept 3 = .ok (.iload_n 1, 1) := by decide +kernel
theorem dL_kept_4 : decode cL_kept 4 = .ok (.iload_n 2, 1) := by decide +kernel
theorem dL_kept_5 : decode cL_kept 5 = .ok (.invokevirtual 41, 3) := by decide +kernel
theorem dL_kept_8 : decode cL_kept 8 = .ok (.i2l, 1) := by decide +kernel
theorem dL_kept_9 : decode cL_kept 9 = .ok (.lastore, 1) := by decide +kernel
theorem dL_kept_10 : decode cL_kept 10 = .ok (.goto 7, 3) := by decide +kernel
theorem dL_kept_13 : decode cL_kept 13 = .ok (.astore 4, 2) := by decide +kernel
theorem dL_kept_15 : decode cL_kept 15 = .ok (.iconst 1, 1) := by decide +kernel
theorem dL_kept_16 : decode cL_kept 16 = .ok (.ireturn, 1) := by decide +kernel
theorem dL_kept_17 : decode cL_kept 17 = .ok (.iconst 0, 1) := by decide +kernel
theorem dL_kept_18 : decode cL_kept 18 = .ok (.ireturn, 1) := by decide +kernel
theorem dL_stale_0 : decode cL_stale 0 = .ok (.aload_n 2, 1) := by decide +kernel
theorem dL_stale_1 : decode cL_stale 1 = .ok (.iconst 0, 1) := by decide +kernel
theorem dL_stale_2 : decode cL_stale 2 = .ok (.aload_n 0, 1) := by decide +kernel
theorem dL_stale_3 : decode cL_stale 3 = .ok (.iload_n 1, 1) := by decide +kernel
theorem dL_stale_4 : decode cL_stale 4 = .ok (.invokevirtual 44, 3) := by decide +kernel
theorem dL_stale_7 : decode cL_stale 7 = .ok (.i2l, 1) := by decide +kernel
theorem dL_stale_8 : decode cL_stale 8 = .ok (.lastore, 1) := by decide +kernel
theorem dL_stale_9 : decode cL_stale 9 = .ok (.goto 6, 3) := by decide +kernel
theorem dL_stale_12 : decode cL_stale 12 = .ok (.astore_n 3, 1) := by decide +kernel
theorem dL_stale_13 : decode cL_stale 13 = .ok (.iconst 1, 1) := by decide +kernel
theorem dL_stale_14 : decode cL_stale 14 = .ok (.ireturn, 1) := by decide +kernel
theorem dL_stale_15 : decode cL_stale 15 = .ok (.iconst 0, 1) := by decide +kernel
theorem dL_stale_16 : decode cL_stale 16 = .ok (.ireturn, 1) := by decide +kernel
theorem dL_law_0 : decode cL_law 0 = .ok (.new 8, 3) := by decide +kernel
theorem dL_law_3 : decode cL_law 3 = .ok (.dup, 1) := by decide +kernel
theorem dL_law_4 : decode cL_law 4 = .ok (.aload_n 0, 1) := by decide +kernel
theorem dL_law_5 : decode cL_law 5 = .ok (.iconst 0, 1) := by decide +kernel
theorem dL_law_6 : decode cL_law 6 = .ok (.invokestatic 47, 3) := by decide +kernel
theorem dL_law_9 : decode cL_law 9 = .ok (.aload_n 0, 1) := by decide +kernel
theorem dL_law_10 : decode cL_law 10 = .ok (.iconst 1, 1) := by decide +kernel
theorem dL_law_11 : decode cL_law 11 = .ok (.invokestatic 47, 3) := by decide +kernel
theorem dL_law_14 : decode cL_law 14 = .ok (.invokespecial 53, 3) := by decide +kernel
theorem dL_law_17 : decode cL_law 17 = .ok (.astore_n 1, 1) := by decide +kernel
theorem dL_law_18 : decode cL_law 18 = .ok (.new 56, 3) := by decide +kernel
theorem dL_law_21 : decode cL_law 21 = .ok (.dup, 1) := by decide +kernel
theorem dL_law_22 : decode cL_law 22 = .ok (.aload_n 0, 1) := by decide +kernel
theorem dL_law_23 : decode cL_law 23 = .ok (.iconst 0, 1) := by decide +kernel
theorem dL_law_24 : decode cL_law 24 = .ok (.invokestatic 47, 3) := by decide +kernel
theorem dL_law_27 : decode cL_law 27 = .ok (.aload_n 0, 1) := by decide +kernel
theorem dL_law_28 : decode cL_law 28 = .ok (.iconst 1, 1) := by decide +kernel
theorem dL_law_29 : decode cL_law 29 = .ok (.invokestatic 47, 3) := by decide +kernel
theorem dL_law_32 : decode cL_law 32 = .ok (.invokespecial 58, 3) := by decide +kernel
theorem dL_law_35 : decode cL_law 35 = .ok (.astore_n 2, 1) := by decide +kernel
theorem dL_law_36 : decode cL_law 36 = .ok (.iconst 1, 1) := by decide +kernel
theorem dL_law_37 : decode cL_law 37 = .ok (.newarray .long, 2) := by decide +kernel
theorem dL_law_39 : decode cL_law 39 = .ok (.astore_n 3, 1) := by decide +kernel
theorem dL_law_40 : decode cL_law 40 = .ok (.iconst 2, 1) := by decide +kernel
theorem dL_law_41 : decode cL_law 41 = .ok (.istore 4, 2) := by decide +kernel
theorem dL_law_43 : decode cL_law 43 = .ok (.iload 4, 2) := by decide +kernel
theorem dL_law_45 : decode cL_law 45 = .ok (.aload_n 0, 1) := by decide +kernel
theorem dL_law_46 : decode cL_law 46 = .ok (.arraylength, 1) := by decide +kernel
theorem dL_law_47 : decode cL_law 47 = .ok (.iconst 4, 1) := by decide +kernel
theorem dL_law_48 : decode cL_law 48 = .ok (.isub, 1) := by decide +kernel
theorem dL_law_49 : decode cL_law 49 = .ok (.if_icmp .gt 851, 3) := by decide +kernel
theorem dL_law_52 : decode cL_law 52 = .ok (.aload_n 0, 1) := by decide +kernel
theorem dL_law_53 : decode cL_law 53 = .ok (.iload 4, 2) := by decide +kernel
theorem dL_law_55 : decode cL_law 55 = .ok (.iaload, 1) := by decide +kernel
theorem dL_law_56 : decode cL_law 56 = .ok (.bipush 15, 2) := by decide +kernel
theorem dL_law_58 : decode cL_law 58 = .ok (.iand, 1) := by decide +kernel
theorem dL_law_59 : decode cL_law 59 = .ok (.tableswitch 835 0 13 #[69, 168, 223, 279, 347, 415, 456, 524, 537, 550, 618, 686, 754, 810], 69) := by decide +kernel
theorem dL_law_128 : decode cL_law 128 = .ok (.aload_n 1, 1) := by decide +kernel
theorem dL_law_129 : decode cL_law 129 = .ok (.aload_n 0, 1) := by decide +kernel
theorem dL_law_130 : decode cL_law 130 = .ok (.iload 4, 2) := by decide +kernel
theorem dL_law_132 : decode cL_law 132 = .ok (.iconst 1, 1) := by decide +kernel
theorem dL_law_133 : decode cL_law 133 = .ok (.iadd, 1) := by decide +kernel
theorem dL_law_134 : decode cL_law 134 = .ok (.iaload, 1) := by decide +kernel
theorem dL_law_135 : decode cL_law 135 = .ok (.aload_n 0, 1) := by decide +kernel
theorem dL_law_136 : decode cL_law 136 = .ok (.iload 4, 2) := by decide +kernel
theorem dL_law_138 : decode cL_law 138 = .ok (.iconst 2, 1) := by decide +kernel
theorem dL_law_139 : decode cL_law 139 = .ok (.iadd, 1) := by decide +kernel
theorem dL_law_140 : decode cL_law 140 = .ok (.iaload, 1) := by decide +kernel
theorem dL_law_141 : decode cL_law 141 = .ok (.i2l, 1) := by decide +kernel
theorem dL_law_142 : decode cL_law 142 = .ok (.bipush 32, 2) := by decide +kernel
theorem dL_law_144 : decode cL_law 144 = .ok (.lshl, 1) := by decide +kernel
theorem dL_law_145 : decode cL_law 145 = .ok (.aload_n 0, 1) := by decide +kernel
theorem dL_law_146 : decode cL_law 146 = .ok (.iload 4, 2) := by decide +kernel
theorem dL_law_148 : decode cL_law 148 = .ok (.iconst 3, 1) := by decide +kernel
theorem dL_law_149 : decode cL_law 149 = .ok (.iadd, 1) := by decide +kernel
theorem dL_law_150 : decode cL_law 150 = .ok (.iaload, 1) := by decide +kernel
theorem dL_law_151 : decode cL_law 151 = .ok (.i2l, 1) := by decide +kernel
theorem dL_law_152 : decode cL_law 152 = .ok (.ldc2_w 59, 3) := by decide +kernel
theorem dL_law_155 : decode cL_law 155 = .ok (.land, 1) := by decide +kernel
theorem dL_law_156 : decode cL_law 156 = .ok (.lor, 1) := by decide +kernel
theorem dL_law_157 : decode cL_law 157 = .ok (.aload_n 3, 1) := by decide +kernel
theorem dL_law_158 : decode cL_law 158 = .ok (.invokestatic 61, 3) := by decide +kernel
theorem dL_law_161 : decode cL_law 161 = .ok (.istore 5, 2) := by decide +kernel
theorem dL_law_163 : decode cL_law 163 = .ok (.aload_n 2, 1) := by decide +kernel
theorem dL_law_164 : decode cL_law 164 = .ok (.aload_n 0, 1) := by decide +kernel
theorem dL_law_165 : decode cL_law 165 = .ok (.iload 4, 2) := by decide +kernel
theorem dL_law_167 : decode cL_law 167 = .ok (.iconst 1, 1) := by decide +kernel
theorem dL_law_168 : decode cL_law 168 = .ok (.iadd, 1) := by decide +kernel
theorem dL_law_169 : decode cL_law 169 = .ok (.iaload, 1) := by decide +kernel
theorem dL_law_170 : decode cL_law 170 = .ok (.aload_n 0, 1) := by decide +kernel
theorem dL_law_171 : decode cL_law 171 = .ok (.iload 4, 2) := by decide +kernel
theorem dL_law_173 : decode cL_law 173 = .ok (.iconst 2, 1) := by decide +kernel
theorem dL_law_174 : decode cL_law 174 = .ok (.iadd, 1) := by decide +kernel
theorem dL_law_175 : decode cL_law 175 = .ok (.iaload, 1) := by decide +kernel
theorem dL_law_176 : decode cL_law 176 = .ok (.i2l, 1) := by decide +kernel
theorem dL_law_177 : decode cL_law 177 = .ok (.bipush 32, 2) := by decide +kernel
theorem dL_law_179 : decode cL_law 179 = .ok (.lshl, 1) := by decide +kernel
theorem dL_law_180 : decode cL_law 180 = .ok (.aload_n 0, 1) := by decide +kernel
theorem dL_law_181 : decode cL_law 181 = .ok (.iload 4, 2) := by decide +kernel
theorem dL_law_183 : decode cL_law 183 = .ok (.iconst 3, 1) := by decide +kernel
theorem dL_law_184 : decode cL_law 184 = .ok (.iadd, 1) := by decide +kernel
theorem dL_law_185 : decode cL_law 185 = .ok (.iaload, 1) := by decide +kernel
theorem dL_law_186 : decode cL_law 186 = .ok (.i2l, 1) := by decide +kernel
theorem dL_law_187 : decode cL_law 187 = .ok (.ldc2_w 59, 3) := by decide +kernel
theorem dL_law_190 : decode cL_law 190 = .ok (.land, 1) := by decide +kernel
theorem dL_law_191 : decode cL_law 191 = .ok (.lor, 1) := by decide +kernel
theorem dL_law_192 : decode cL_law 192 = .ok (.invokevirtual 64, 3) := by decide +kernel
theorem dL_law_195 : decode cL_law 195 = .ok (.lstore 6, 2) := by decide +kernel
theorem dL_law_197 : decode cL_law 197 = .ok (.aload_n 2, 1) := by decide +kernel
theorem dL_law_198 : decode cL_law 198 = .ok (.invokevirtual 65, 3) := by decide +kernel
theorem dL_law_201 : decode cL_law 201 = .ok (.iload 5, 2) := by decide +kernel
theorem dL_law_203 : decode cL_law 203 = .ok (.if_icmp .eq 5, 3) := by decide +kernel
theorem dL_law_206 : decode cL_law 206 = .ok (.iconst 0, 1) := by decide +kernel
theorem dL_law_207 : decode cL_law 207 = .ok (.ireturn, 1) := by decide +kernel
theorem dL_law_208 : decode cL_law 208 = .ok (.iload 5, 2) := by decide +kernel
theorem dL_law_210 : decode cL_law 210 = .ok (.ifCond .ne 14, 3) := by decide +kernel
theorem dL_law_213 : decode cL_law 213 = .ok (.aload_n 3, 1) := by decide +kernel
theorem dL_law_214 : decode cL_law 214 = .ok (.iconst 0, 1) := by decide +kernel
theorem dL_law_215 : decode cL_law 215 = .ok (.laload, 1) := by decide +kernel
theorem dL_law_216 : decode cL_law 216 = .ok (.lload 6, 2) := by decide +kernel
theorem dL_law_218 : decode cL_law 218 = .ok (.lcmp, 1) := by decide +kernel
theorem dL_law_219 : decode cL_law 219 = .ok (.ifCond .eq 5, 3) := by decide +kernel
theorem dL_law_222 : decode cL_law 222 = .ok (.iconst 0, 1) := by decide +kernel
theorem dL_law_223 : decode cL_law 223 = .ok (.ireturn, 1) := by decide +kernel
theorem dL_law_224 : decode cL_law 224 = .ok (.goto 670, 3) := by decide +kernel
theorem dL_law_227 : decode cL_law 227 = .ok (.aload_n 1, 1) := by decide +kernel
theorem dL_law_228 : decode cL_law 228 = .ok (.aload_n 0, 1) := by decide +kernel
theorem dL_law_229 : decode cL_law 229 = .ok (.iload 4, 2) := by decide +kernel
theorem dL_law_231 : decode cL_law 231 = .ok (.iconst 1, 1) := by decide +kernel
theorem dL_law_232 : decode cL_law 232 = .ok (.iadd, 1) := by decide +kernel
theorem dL_law_233 : decode cL_law 233 = .ok (.iaload, 1) := by decide +kernel
theorem dL_law_234 : decode cL_law 234 = .ok (.aload_n 3, 1) := by decide +kernel
theorem dL_law_235 : decode cL_law 235 = .ok (.invokestatic 69, 3) := by decide +kernel
theorem dL_law_238 : decode cL_law 238 = .ok (.istore 5, 2) := by decide +kernel
theorem dL_law_240 : decode cL_law 240 = .ok (.aload_n 2, 1) := by decide +kernel
theorem dL_law_241 : decode cL_law 241 = .ok (.aload_n 0, 1) := by decide +kernel
theorem dL_law_242 : decode cL_law 242 = .ok (.iload 4, 2) := by decide +kernel
theorem dL_law_244 : decode cL_law 244 = .ok (.iconst 1, 1) := by decide +kernel
theorem dL_law_245 : decode cL_law 245 = .ok (.iadd, 1) := by decide +kernel
theorem dL_law_246 : decode cL_law 246 = .ok (.iaload, 1) := by decide +kernel
theorem dL_law_247 : decode cL_law 247 = .ok (.invokevirtual 72, 3) := by decide +kernel
theorem dL_law_250 : decode cL_law 250 = .ok (.lstore 6, 2) := by decide +kernel
theorem dL_law_252 : decode cL_law 252 = .ok (.aload_n 2, 1) := by decide +kernel
theorem dL_law_253 : decode cL_law 253 = .ok (.invokevirtual 65, 3) := by decide +kernel
theorem dL_law_256 : decode cL_law 256 = .ok (.iload 5, 2) := by decide +kernel
theorem dL_law_258 : decode cL_law 258 = .ok (.if_icmp .eq 5, 3) := by decide +kernel
theorem dL_law_261 : decode cL_law 261 = .ok (.iconst 0, 1) := by decide +kernel
theorem dL_law_262 : decode cL_law 262 = .ok (.ireturn, 1) := by decide +kernel
theorem dL_law_263 : decode cL_law 263 = .ok (.iload 5, 2) := by decide +kernel
theorem dL_law_265 : decode cL_law 265 = .ok (.ifCond .ne 14, 3) := by decide +kernel
theorem dL_law_268 : decode cL_law 268 = .ok (.aload_n 3, 1) := by decide +kernel
theorem dL_law_269 : decode cL_law 269 = .ok (.iconst 0, 1) := by decide +kernel
theorem dL_law_270 : decode cL_law 270 = .ok (.laload, 1) := by decide +kernel
theorem dL_law_271 : decode cL_law 271 = .ok (.lload 6, 2) := by decide +kernel
theorem dL_law_273 : decode cL_law 273 = .ok (.lcmp, 1) := by decide +kernel
theorem dL_law_274 : decode cL_law 274 = .ok (.ifCond .eq 5, 3) := by decide +kernel
theorem dL_law_277 : decode cL_law 277 = .ok (.iconst 0, 1) := by decide +kernel
theorem dL_law_278 : decode cL_law 278 = .ok (.ireturn, 1) := by decide +kernel
theorem dL_law_279 : decode cL_law 279 = .ok (.goto 615, 3) := by decide +kernel
theorem dL_law_282 : decode cL_law 282 = .ok (.aload_n 1, 1) := by decide +kernel
theorem dL_law_283 : decode cL_law 283 = .ok (.aload_n 0, 1) := by decide +kernel
theorem dL_law_284 : decode cL_law 284 = .ok (.iload 4, 2) := by decide +kernel
theorem dL_law_286 : decode cL_law 286 = .ok (.iconst 1, 1) := by decide +kernel
theorem dL_law_287 : decode cL_law 287 = .ok (.iadd, 1) := by decide +kernel
theorem dL_law_288 : decode cL_law 288 = .ok (.iaload, 1) := by decide +kernel
theorem dL_law_289 : decode cL_law 289 = .ok (.aload_n 3, 1) := by decide +kernel
theorem dL_law_290 : decode cL_law 290 = .ok (.invokestatic 73, 3) := by decide +kernel
theorem dL_law_293 : decode cL_law 293 = .ok (.istore 5, 2) := by decide +kernel
theorem dL_law_295 : decode cL_law 295 = .ok (.aload_n 2, 1) := by decide +kernel
theorem dL_law_296 : decode cL_law 296 = .ok (.aload_n 0, 1) := by decide +kernel
theorem dL_law_297 : decode cL_law 297 = .ok (.iload 4, 2) := by decide +kernel
theorem dL_law_299 : decode cL_law 299 = .ok (.iconst 1, 1) := by decide +kernel
theorem dL_law_300 : decode cL_law 300 = .ok (.iadd, 1) := by decide +kernel
theorem dL_law_301 : decode cL_law 301 = .ok (.iaload, 1) := by decide +kernel
theorem dL_law_302 : decode cL_law 302 = .ok (.invokevirtual 75, 3) := by decide +kernel
theorem dL_law_305 : decode cL_law 305 = .ok (.istore 6, 2) := by decide +kernel
theorem dL_law_307 : decode cL_law 307 = .ok (.aload_n 2, 1) := by decide +kernel
theorem dL_law_308 : decode cL_law 308 = .ok (.invokevirtual 65, 3) := by decide +kernel
theorem dL_law_311 : decode cL_law 311 = .ok (.iload 5, 2) := by decide +kernel
theorem dL_law_313 : decode cL_law 313 = .ok (.if_icmp .eq 5, 3) := by decide +kernel
theorem dL_law_316 : decode cL_law 316 = .ok (.iconst 0, 1) := by decide +kernel
theorem dL_law_317 : decode cL_law 317 = .ok (.ireturn, 1) := by decide +kernel
theorem dL_law_318 : decode cL_law 318 = .ok (.iload 5, 2) := by decide +kernel
theorem dL_law_320 : decode cL_law 320 = .ok (.ifCond .ne 15, 3) := by decide +kernel
theorem dL_law_323 : decode cL_law 323 = .ok (.aload_n 3, 1) := by decide +kernel
theorem dL_law_324 : decode cL_law 324 = .ok (.iconst 0, 1) := by decide +kernel
theorem dL_law_325 : decode cL_law 325 = .ok (.laload, 1) := by decide +kernel
theorem dL_law_326 : decode cL_law 326 = .ok (.iload 6, 2) := by decide +kernel
theorem dL_law_328 : decode cL_law 328 = .ok (.i2l, 1) := by decide +kernel
theorem dL_law_329 : decode cL_law 329 = .ok (.lcmp, 1) := by decide +kernel
theorem dL_law_330 : decode cL_law 330 = .ok (.ifCond .eq 5, 3) := by decide +kernel
theorem dL_law_333 : decode cL_law 333 = .ok (.iconst 0, 1) := by decide +kernel
theorem dL_law_334 : decode cL_law 334 = .ok (.ireturn, 1) := by decide +kernel
theorem dL_law_335 : decode cL_law 335 = .ok (.goto 559, 3) := by decide +kernel
theorem dL_law_338 : decode cL_law 338 = .ok (.aload_n 1, 1) := by decide +kernel
theorem dL_law_339 : decode cL_law 339 = .ok (.aload_n 0, 1) := by decide +kernel
theorem dL_law_340 : decode cL_law 340 = .ok (.iload 4, 2) := by decide +kernel
theorem dL_law_342 : decode cL_law 342 = .ok (.iconst 1, 1) := by decide +kernel
theorem dL_law_343 : decode cL_law 343 = .ok (.iadd, 1) := by decide +kernel
theorem dL_law_344 : decode cL_law 344 = .ok (.iaload, 1) := by decide +kernel
theorem dL_law_345 : decode cL_law 345 = .ok (.aload_n 0, 1) := by decide +kernel
theorem dL_law_346 : decode cL_law 346 = .ok (.iload 4, 2) := by decide +kernel
theorem dL_law_348 : decode cL_law 348 = .ok (.iconst 2, 1) := by decide +kernel
theorem dL_law_349 : decode cL_law 349 = .ok (.iadd, 1) := by decide +kernel
theorem dL_law_350 : decode cL_law 350 = .ok (.iaload, 1) := by decide +kernel
theorem dL_law_351 : decode cL_law 351 = .ok (.aload_n 3, 1) := by decide +kernel
theorem dL_law_352 : decode cL_law 352 = .ok (.invokestatic 76, 3) := by decide +kernel
theorem dL_law_355 : decode cL_law 355 = .ok (.istore 5, 2) := by decide +kernel
theorem dL_law_357 : decode cL_law 357 = .ok (.aload_n 2, 1) := by decide +kernel
theorem dL_law_358 : decode cL_law 358 = .ok (.aload_n 0, 1) := by decide +kernel
theorem dL_law_359 : decode cL_law 359 = .ok (.iload 4, 2) := by decide +kernel
theorem dL_law_361 : decode cL_law 361 = .ok (.iconst 1, 1) := by decide +kernel
theorem dL_law_362 : decode cL_law 362 = .ok (.iadd, 1) := by decide +kernel
theorem dL_law_363 : decode cL_law 363 = .ok (.iaload, 1) := by decide +kernel
theorem dL_law_364 : decode cL_law 364 = .ok (.aload_n 0, 1) := by decide +kernel
theorem dL_law_365 : decode cL_law 365 = .ok (.iload 4, 2) := by decide +kernel
theorem dL_law_367 : decode cL_law 367 = .ok (.iconst 2, 1) := by decide +kernel
theorem dL_law_368 : decode cL_law 368 = .ok (.iadd, 1) := by decide +kernel
theorem dL_law_369 : decode cL_law 369 = .ok (.iaload, 1) := by decide +kernel
theorem dL_law_370 : decode cL_law 370 = .ok (.invokevirtual 79, 3) := by decide +kernel
theorem dL_law_373 : decode cL_law 373 = .ok (.istore 6, 2) := by decide +kernel
theorem dL_law_375 : decode cL_law 375 = .ok (.aload_n 2, 1) := by decide +kernel
theorem dL_law_376 : decode cL_law 376 = .ok (.invokevirtual 65, 3) := by decide +kernel
theorem dL_law_379 : decode cL_law 379 = .ok (.iload 5, 2) := by decide +kernel
theorem dL_law_381 : decode cL_law 381 = .ok (.if_icmp .eq 5, 3) := by decide +kernel
theorem dL_law_384 : decode cL_law 384 = .ok (.iconst 0, 1) := by decide +kernel
theorem dL_law_385 : decode cL_law 385 = .ok (.ireturn, 1) := by decide +kernel
theorem dL_law_386 : decode cL_law 386 = .ok (.iload 5, 2) := by decide +kernel
theorem dL_law_388 : decode cL_law 388 = .ok (.ifCond .ne 15, 3) := by decide +kernel
theorem dL_law_391 : decode cL_law 391 = .ok (.aload_n 3, 1) := by decide +kernel
theorem dL_law_392 : decode cL_law 392 = .ok (.iconst 0, 1) := by decide +kernel
theorem dL_law_393 : decode cL_law 393 = .ok (.laload, 1) := by decide +kernel
theorem dL_law_394 : decode cL_law 394 = .ok (.iload 6, 2) := by decide +kernel
theorem dL_law_396 : decode cL_law 396 = .ok (.i2l, 1) := by decide +kernel
theorem dL_law_397 : decode cL_law 397 = .ok (.lcmp, 1) := by decide +kernel
theorem dL_law_398 : decode cL_law 398 = .ok (.ifCond .eq 5, 3) := by decide +kernel
theorem dL_law_401 : decode cL_law 401 = .ok (.iconst 0, 1) := by decide +kernel
theorem dL_law_402 : decode cL_law 402 = .ok (.ireturn, 1) := by decide +kernel
theorem dL_law_403 : decode cL_law 403 = .ok (.goto 491, 3) := by decide +kernel
theorem dL_law_406 : decode cL_law 406 = .ok (.aload_n 1, 1) := by decide +kernel
theorem dL_law_407 : decode cL_law 407 = .ok (.aload_n 0, 1) := by decide +kernel
theorem dL_law_408 : decode cL_law 408 = .ok (.iload 4, 2) := by decide +kernel
theorem dL_law_410 : decode cL_law 410 = .ok (.iconst 1, 1) := by decide +kernel
theorem dL_law_411 : decode cL_law 411 = .ok (.iadd, 1) := by decide +kernel
theorem dL_law_412 : decode cL_law 412 = .ok (.iaload, 1) := by decide +kernel
theorem dL_law_413 : decode cL_law 413 = .ok (.aload_n 0, 1) := by decide +kernel
theorem dL_law_414 : decode cL_law 414 = .ok (.iload 4, 2) := by decide +kernel
theorem dL_law_416 : decode cL_law 416 = .ok (.iconst 2, 1) := by decide +kernel
theorem dL_law_417 : decode cL_law 417 = .ok (.iadd, 1) := by decide +kernel
theorem dL_law_418 : decode cL_law 418 = .ok (.iaload, 1) := by decide +kernel
theorem dL_law_419 : decode cL_law 419 = .ok (.aload_n 3, 1) := by decide +kernel
theorem dL_law_420 : decode cL_law 420 = .ok (.invokestatic 80, 3) := by decide +kernel
theorem dL_law_423 : decode cL_law 423 = .ok (.istore 5, 2) := by decide +kernel
theorem dL_law_425 : decode cL_law 425 = .ok (.aload_n 2, 1) := by decide +kernel
theorem dL_law_426 : decode cL_law 426 = .ok (.aload_n 0, 1) := by decide +kernel
theorem dL_law_427 : decode cL_law 427 = .ok (.iload 4, 2) := by decide +kernel
theorem dL_law_429 : decode cL_law 429 = .ok (.iconst 1, 1) := by decide +kernel
theorem dL_law_430 : decode cL_law 430 = .ok (.iadd, 1) := by decide +kernel
theorem dL_law_431 : decode cL_law 431 = .ok (.iaload, 1) := by decide +kernel
theorem dL_law_432 : decode cL_law 432 = .ok (.aload_n 0, 1) := by decide +kernel
theorem dL_law_433 : decode cL_law 433 = .ok (.iload 4, 2) := by decide +kernel
theorem dL_law_435 : decode cL_law 435 = .ok (.iconst 2, 1) := by decide +kernel
theorem dL_law_436 : decode cL_law 436 = .ok (.iadd, 1) := by decide +kernel
theorem dL_law_437 : decode cL_law 437 = .ok (.iaload, 1) := by decide +kernel
theorem dL_law_438 : decode cL_law 438 = .ok (.invokevirtual 82, 3) := by decide +kernel
theorem dL_law_441 : decode cL_law 441 = .ok (.istore 6, 2) := by decide +kernel
theorem dL_law_443 : decode cL_law 443 = .ok (.aload_n 2, 1) := by decide +kernel
theorem dL_law_444 : decode cL_law 444 = .ok (.invokevirtual 65, 3) := by decide +kernel
theorem dL_law_447 : decode cL_law 447 = .ok (.iload 5, 2) := by decide +kernel
theorem dL_law_449 : decode cL_law 449 = .ok (.if_icmp .eq 5, 3) := by decide +kernel
theorem dL_law_452 : decode cL_law 452 = .ok (.iconst 0, 1) := by decide +kernel
theorem dL_law_453 : decode cL_law 453 = .ok (.ireturn, 1) := by decide +kernel
theorem dL_law_454 : decode cL_law 454 = .ok (.iload 5, 2) := by decide +kernel
theorem dL_law_456 : decode cL_law 456 = .ok (.ifCond .ne 15, 3) := by decide +kernel
theorem dL_law_459 : decode cL_law 459 = .ok (.aload_n 3, 1) := by decide +kernel
theorem dL_law_460 : decode cL_law 460 = .ok (.iconst 0, 1) := by decide +kernel
theorem dL_law_461 : decode cL_law 461 = .ok (.laload, 1) := by decide +kernel
theorem dL_law_462 : decode cL_law 462 = .ok (.iload 6, 2) := by decide +kernel
theorem dL_law_464 : decode cL_law 464 = .ok (.i2l, 1) := by decide +kernel
theorem dL_law_465 : decode cL_law 465 = .ok (.lcmp, 1) := by decide +kernel
theorem dL_law_466 : decode cL_law 466 = .ok (.ifCond .eq 5, 3) := by decide +kernel
theorem dL_law_469 : decode cL_law 469 = .ok (.iconst 0, 1) := by decide +kernel
theorem dL_law_470 : decode cL_law 470 = .ok (.ireturn, 1) := by decide +kernel
theorem dL_law_471 : decode cL_law 471 = .ok (.goto 423, 3) := by decide +kernel
theorem dL_law_474 : decode cL_law 474 = .ok (.aload_n 1, 1) := by decide +kernel
theorem dL_law_475 : decode cL_law 475 = .ok (.aload_n 0, 1) := by decide +kernel
theorem dL_law_476 : decode cL_law 476 = .ok (.iload 4, 2) := by decide +kernel
theorem dL_law_478 : decode cL_law 478 = .ok (.iconst 1, 1) := by decide +kernel
theorem dL_law_479 : decode cL_law 479 = .ok (.iadd, 1) := by decide +kernel
theorem dL_law_480 : decode cL_law 480 = .ok (.iaload, 1) := by decide +kernel
theorem dL_law_481 : decode cL_law 481 = .ok (.ifCond .eq 7, 3) := by decide +kernel
theorem dL_law_484 : decode cL_law 484 = .ok (.iconst 1, 1) := by decide +kernel
theorem dL_law_485 : decode cL_law 485 = .ok (.goto 4, 3) := by decide +kernel
theorem dL_law_488 : decode cL_law 488 = .ok (.iconst 0, 1) := by decide +kernel
theorem dL_law_489 : decode cL_law 489 = .ok (.invokevirtual 83, 3) := by decide +kernel
theorem dL_law_492 : decode cL_law 492 = .ok (.aload_n 2, 1) := by decide +kernel
theorem dL_law_493 : decode cL_law 493 = .ok (.aload_n 0, 1) := by decide +kernel
theorem dL_law_494 : decode cL_law 494 = .ok (.iload 4, 2) := by decide +kernel
theorem dL_law_496 : decode cL_law 496 = .ok (.iconst 1, 1) := by decide +kernel
theorem dL_law_497 : decode cL_law 497 = .ok (.iadd, 1) := by decide +kernel
theorem dL_law_498 : decode cL_law 498 = .ok (.iaload, 1) := by decide +kernel
theorem dL_law_499 : decode cL_law 499 = .ok (.ifCond .eq 7, 3) := by decide +kernel
theorem dL_law_502 : decode cL_law 502 = .ok (.iconst 1, 1) := by decide +kernel
theorem dL_law_503 : decode cL_law 503 = .ok (.goto 4, 3) := by decide +kernel
theorem dL_law_506 : decode cL_law 506 = .ok (.iconst 0, 1) := by decide +kernel
theorem dL_law_507 : decode cL_law 507 = .ok (.invokevirtual 87, 3) := by decide +kernel
theorem dL_law_510 : decode cL_law 510 = .ok (.if_icmp .eq 384, 3) := by decide +kernel
theorem dL_law_513 : decode cL_law 513 = .ok (.iconst 0, 1) := by decide +kernel
theorem dL_law_514 : decode cL_law 514 = .ok (.ireturn, 1) := by decide +kernel
theorem dL_law_515 : decode cL_law 515 = .ok (.aload_n 1, 1) := by decide +kernel
theorem dL_law_516 : decode cL_law 516 = .ok (.aload_n 0, 1) := by decide +kernel
theorem dL_law_517 : decode cL_law 517 = .ok (.iload 4, 2) := by decide +kernel
theorem dL_law_519 : decode cL_law 519 = .ok (.iconst 1, 1) := by decide +kernel
theorem dL_law_520 : decode cL_law 520 = .ok (.iadd, 1) := by decide +kernel
theorem dL_law_521 : decode cL_law 521 = .ok (.iaload, 1) := by decide +kernel
theorem dL_law_522 : decode cL_law 522 = .ok (.aload_n 0, 1) := by decide +kernel
theorem dL_law_523 : decode cL_law 523 = .ok (.iload 4, 2) := by decide +kernel
theorem dL_law_525 : decode cL_law 525 = .ok (.iconst 2, 1) := by decide +kernel
theorem dL_law_526 : decode cL_law 526 = .ok (.iadd, 1) := by decide +kernel
theorem dL_law_527 : decode cL_law 527 = .ok (.iaload, 1) := by decide +kernel
theorem dL_law_528 : decode cL_law 528 = .ok (.aload_n 3, 1) := by decide +kernel
theorem dL_law_529 : decode cL_law 529 = .ok (.invokestatic 88, 3) := by decide +kernel
theorem dL_law_532 : decode cL_law 532 = .ok (.istore 5, 2) := by decide +kernel
theorem dL_law_534 : decode cL_law 534 = .ok (.aload_n 2, 1) := by decide +kernel
theorem dL_law_535 : decode cL_law 535 = .ok (.aload_n 0, 1) := by decide +kernel
theorem dL_law_536 : decode cL_law 536 = .ok (.iload 4, 2) := by decide +kernel
theorem dL_law_538 : decode cL_law 538 = .ok (.iconst 1, 1) := by decide +kernel
theorem dL_law_539 : decode cL_law 539 = .ok (.iadd, 1) := by decide +kernel
theorem dL_law_540 : decode cL_law 540 = .ok (.iaload, 1) := by decide +kernel
theorem dL_law_541 : decode cL_law 541 = .ok (.aload_n 0, 1) := by decide +kernel
theorem dL_law_542 : decode cL_law 542 = .ok (.iload 4, 2) := by decide +kernel
theorem dL_law_544 : decode cL_law 544 = .ok (.iconst 2, 1) := by decide +kernel
theorem dL_law_545 : decode cL_law 545 = .ok (.iadd, 1) := by decide +kernel
theorem dL_law_546 : decode cL_law 546 = .ok (.iaload, 1) := by decide +kernel
theorem dL_law_547 : decode cL_law 547 = .ok (.invokevirtual 90, 3) := by decide +kernel
theorem dL_law_550 : decode cL_law 550 = .ok (.istore 6, 2) := by decide +kernel
theorem dL_law_552 : decode cL_law 552 = .ok (.aload_n 2, 1) := by decide +kernel
theorem dL_law_553 : decode cL_law 553 = .ok (.invokevirtual 65, 3) := by decide +kernel
theorem dL_law_556 : decode cL_law 556 = .ok (.iload 5, 2) := by decide +kernel
theorem dL_law_558 : decode cL_law 558 = .ok (.if_icmp .eq 5, 3) := by decide +kernel
theorem dL_law_561 : decode cL_law 561 = .ok (.iconst 0, 1) := by decide +kernel
theorem dL_law_562 : decode cL_law 562 = .ok (.ireturn, 1) := by decide +kernel
theorem dL_law_563 : decode cL_law 563 = .ok (.iload 5, 2) := by decide +kernel
theorem dL_law_565 : decode cL_law 565 = .ok (.ifCond .ne 15, 3) := by decide +kernel
theorem dL_law_568 : decode cL_law 568 = .ok (.aload_n 3, 1) := by decide +kernel
theorem dL_law_569 : decode cL_law 569 = .ok (.iconst 0, 1) := by decide +kernel
theorem dL_law_570 : decode cL_law 570 = .ok (.laload, 1) := by decide +kernel
theorem dL_law_571 : decode cL_law 571 = .ok (.iload 6, 2) := by decide +kernel
theorem dL_law_573 : decode cL_law 573 = .ok (.i2l, 1) := by decide +kernel
theorem dL_law_574 : decode cL_law 574 = .ok (.lcmp, 1) := by decide +kernel
theorem dL_law_575 : decode cL_law 575 = .ok (.ifCond .eq 5, 3) := by decide +kernel
theorem dL_law_578 : decode cL_law 578 = .ok (.iconst 0, 1) := by decide +kernel
theorem dL_law_579 : decode cL_law 579 = .ok (.ireturn, 1) := by decide +kernel
theorem dL_law_580 : decode cL_law 580 = .ok (.goto 314, 3) := by decide +kernel
theorem dL_law_583 : decode cL_law 583 = .ok (.aload_n 1, 1) := by decide +kernel
theorem dL_law_584 : decode cL_law 584 = .ok (.invokevirtual 91, 3) := by decide +kernel
theorem dL_law_587 : decode cL_law 587 = .ok (.aload_n 2, 1) := by decide +kernel
theorem dL_law_588 : decode cL_law 588 = .ok (.invokevirtual 94, 3) := by decide +kernel
theorem dL_law_591 : decode cL_law 591 = .ok (.if_icmp .eq 303, 3) := by decide +kernel
theorem dL_law_594 : decode cL_law 594 = .ok (.iconst 0, 1) := by decide +kernel
theorem dL_law_595 : decode cL_law 595 = .ok (.ireturn, 1) := by decide +kernel
theorem dL_law_596 : decode cL_law 596 = .ok (.aload_n 1, 1) := by decide +kernel
theorem dL_law_597 : decode cL_law 597 = .ok (.invokevirtual 95, 3) := by decide +kernel
theorem dL_law_600 : decode cL_law 600 = .ok (.aload_n 2, 1) := by decide +kernel
theorem dL_law_601 : decode cL_law 601 = .ok (.invokevirtual 98, 3) := by decide +kernel
theorem dL_law_604 : decode cL_law 604 = .ok (.if_icmp .eq 290, 3) := by decide +kernel
theorem dL_law_607 : decode cL_law 607 = .ok (.iconst 0, 1) := by decide +kernel
theorem dL_law_608 : decode cL_law 608 = .ok (.ireturn, 1) := by decide +kernel
theorem dL_law_609 : decode cL_law 609 = .ok (.aload_n 1, 1) := by decide +kernel
theorem dL_law_610 : decode cL_law 610 = .ok (.aload_n 0, 1) := by decide +kernel
theorem dL_law_611 : decode cL_law 611 = .ok (.iload 4, 2) := by decide +kernel
theorem dL_law_613 : decode cL_law 613 = .ok (.iconst 1, 1) := by decide +kernel
theorem dL_law_614 : decode cL_law 614 = .ok (.iadd, 1) := by decide +kernel
theorem dL_law_615 : decode cL_law 615 = .ok (.iaload, 1) := by decide +kernel
theorem dL_law_616 : decode cL_law 616 = .ok (.aload_n 0, 1) := by decide +kernel
theorem dL_law_617 : decode cL_law 617 = .ok (.iload 4, 2) := by decide +kernel
theorem dL_law_619 : decode cL_law 619 = .ok (.iconst 2, 1) := by decide +kernel
theorem dL_law_620 : decode cL_law 620 = .ok (.iadd, 1) := by decide +kernel
theorem dL_law_621 : decode cL_law 621 = .ok (.iaload, 1) := by decide +kernel
theorem dL_law_622 : decode cL_law 622 = .ok (.aload_n 3, 1) := by decide +kernel
theorem dL_law_623 : decode cL_law 623 = .ok (.invokestatic 99, 3) := by decide +kernel
theorem dL_law_626 : decode cL_law 626 = .ok (.istore 5, 2) := by decide +kernel
theorem dL_law_628 : decode cL_law 628 = .ok (.aload_n 2, 1) := by decide +kernel
theorem dL_law_629 : decode cL_law 629 = .ok (.aload_n 0, 1) := by decide +kernel
theorem dL_law_630 : decode cL_law 630 = .ok (.iload 4, 2) := by decide +kernel
theorem dL_law_632 : decode cL_law 632 = .ok (.iconst 1, 1) := by decide +kernel
theorem dL_law_633 : decode cL_law 633 = .ok (.iadd, 1) := by decide +kernel
theorem dL_law_634 : decode cL_law 634 = .ok (.iaload, 1) := by decide +kernel
theorem dL_law_635 : decode cL_law 635 = .ok (.aload_n 0, 1) := by decide +kernel
theorem dL_law_636 : decode cL_law 636 = .ok (.iload 4, 2) := by decide +kernel
theorem dL_law_638 : decode cL_law 638 = .ok (.iconst 2, 1) := by decide +kernel
theorem dL_law_639 : decode cL_law 639 = .ok (.iadd, 1) := by decide +kernel
theorem dL_law_640 : decode cL_law 640 = .ok (.iaload, 1) := by decide +kernel
theorem dL_law_641 : decode cL_law 641 = .ok (.invokevirtual 101, 3) := by decide +kernel
theorem dL_law_644 : decode cL_law 644 = .ok (.istore 6, 2) := by decide +kernel
theorem dL_law_646 : decode cL_law 646 = .ok (.aload_n 2, 1) := by decide +kernel
theorem dL_law_647 : decode cL_law 647 = .ok (.invokevirtual 65, 3) := by decide +kernel
theorem dL_law_650 : decode cL_law 650 = .ok (.iload 5, 2) := by decide +kernel
theorem dL_law_652 : decode cL_law 652 = .ok (.if_icmp .eq 5, 3) := by decide +kernel
theorem dL_law_655 : decode cL_law 655 = .ok (.iconst 0, 1) := by decide +kernel
theorem dL_law_656 : decode cL_law 656 = .ok (.ireturn, 1) := by decide +kernel
theorem dL_law_657 : decode cL_law 657 = .ok (.iload 5, 2) := by decide +kernel
theorem dL_law_659 : decode cL_law 659 = .ok (.ifCond .ne 15, 3) := by decide +kernel
theorem dL_law_662 : decode cL_law 662 = .ok (.aload_n 3, 1) := by decide +kernel
theorem dL_law_663 : decode cL_law 663 = .ok (.iconst 0, 1) := by decide +kernel
theorem dL_law_664 : decode cL_law 664 = .ok (.laload, 1) := by decide +kernel
theorem dL_law_665 : decode cL_law 665 = .ok (.iload 6, 2) := by decide +kernel
theorem dL_law_667 : decode cL_law 667 = .ok (.i2l, 1) := by decide +kernel
theorem dL_law_668 : decode cL_law 668 = .ok (.lcmp, 1) := by decide +kernel
theorem dL_law_669 : decode cL_law 669 = .ok (.ifCond .eq 5, 3) := by decide +kernel
theorem dL_law_672 : decode cL_law 672 = .ok (.iconst 0, 1) := by decide +kernel
theorem dL_law_673 : decode cL_law 673 = .ok (.ireturn, 1) := by decide +kernel
theorem dL_law_674 : decode cL_law 674 = .ok (.goto 220, 3) := by decide +kernel
theorem dL_law_677 : decode cL_law 677 = .ok (.aload_n 1, 1) := by decide +kernel
theorem dL_law_678 : decode cL_law 678 = .ok (.aload_n 0, 1) := by decide +kernel
theorem dL_law_679 : decode cL_law 679 = .ok (.iload 4, 2) := by decide +kernel
theorem dL_law_681 : decode cL_law 681 = .ok (.iconst 1, 1) := by decide +kernel
theorem dL_law_682 : decode cL_law 682 = .ok (.iadd, 1) := by decide +kernel
theorem dL_law_683 : decode cL_law 683 = .ok (.iaload, 1) := by decide +kernel
theorem dL_law_684 : decode cL_law 684 = .ok (.aload_n 0, 1) := by decide +kernel
theorem dL_law_685 : decode cL_law 685 = .ok (.iload 4, 2) := by decide +kernel
theorem dL_law_687 : decode cL_law 687 = .ok (.iconst 2, 1) := by decide +kernel
theorem dL_law_688 : decode cL_law 688 = .ok (.iadd, 1) := by decide +kernel
theorem dL_law_689 : decode cL_law 689 = .ok (.iaload, 1) := by decide +kernel
theorem dL_law_690 : decode cL_law 690 = .ok (.aload_n 3, 1) := by decide +kernel
theorem dL_law_691 : decode cL_law 691 = .ok (.invokestatic 102, 3) := by decide +kernel
theorem dL_law_694 : decode cL_law 694 = .ok (.istore 5, 2) := by decide +kernel
theorem dL_law_696 : decode cL_law 696 = .ok (.aload_n 2, 1) := by decide +kernel
theorem dL_law_697 : decode cL_law 697 = .ok (.aload_n 0, 1) := by decide +kernel
theorem dL_law_698 : decode cL_law 698 = .ok (.iload 4, 2) := by decide +kernel
theorem dL_law_700 : decode cL_law 700 = .ok (.iconst 1, 1) := by decide +kernel
theorem dL_law_701 : decode cL_law 701 = .ok (.iadd, 1) := by decide +kernel
theorem dL_law_702 : decode cL_law 702 = .ok (.iaload, 1) := by decide +kernel
theorem dL_law_703 : decode cL_law 703 = .ok (.aload_n 0, 1) := by decide +kernel
theorem dL_law_704 : decode cL_law 704 = .ok (.iload 4, 2) := by decide +kernel
theorem dL_law_706 : decode cL_law 706 = .ok (.iconst 2, 1) := by decide +kernel
theorem dL_law_707 : decode cL_law 707 = .ok (.iadd, 1) := by decide +kernel
theorem dL_law_708 : decode cL_law 708 = .ok (.iaload, 1) := by decide +kernel
theorem dL_law_709 : decode cL_law 709 = .ok (.invokevirtual 104, 3) := by decide +kernel
theorem dL_law_712 : decode cL_law 712 = .ok (.istore 6, 2) := by decide +kernel
theorem dL_law_714 : decode cL_law 714 = .ok (.aload_n 2, 1) := by decide +kernel
theorem dL_law_715 : decode cL_law 715 = .ok (.invokevirtual 65, 3) := by decide +kernel
theorem dL_law_718 : decode cL_law 718 = .ok (.iload 5, 2) := by decide +kernel
theorem dL_law_720 : decode cL_law 720 = .ok (.if_icmp .eq 5, 3) := by decide +kernel
theorem dL_law_723 : decode cL_law 723 = .ok (.iconst 0, 1) := by decide +kernel
theorem dL_law_724 : decode cL_law 724 = .ok (.ireturn, 1) := by decide +kernel
theorem dL_law_725 : decode cL_law 725 = .ok (.iload 5, 2) := by decide +kernel
theorem dL_law_727 : decode cL_law 727 = .ok (.ifCond .ne 15, 3) := by decide +kernel
theorem dL_law_730 : decode cL_law 730 = .ok (.aload_n 3, 1) := by decide +kernel
theorem dL_law_731 : decode cL_law 731 = .ok (.iconst 0, 1) := by decide +kernel
theorem dL_law_732 : decode cL_law 732 = .ok (.laload, 1) := by decide +kernel
theorem dL_law_733 : decode cL_law 733 = .ok (.iload 6, 2) := by decide +kernel
theorem dL_law_735 : decode cL_law 735 = .ok (.i2l, 1) := by decide +kernel
theorem dL_law_736 : decode cL_law 736 = .ok (.lcmp, 1) := by decide +kernel
theorem dL_law_737 : decode cL_law 737 = .ok (.ifCond .eq 5, 3) := by decide +kernel
theorem dL_law_740 : decode cL_law 740 = .ok (.iconst 0, 1) := by decide +kernel
theorem dL_law_741 : decode cL_law 741 = .ok (.ireturn, 1) := by decide +kernel
theorem dL_law_742 : decode cL_law 742 = .ok (.goto 152, 3) := by decide +kernel
theorem dL_law_745 : decode cL_law 745 = .ok (.aload_n 1, 1) := by decide +kernel
theorem dL_law_746 : decode cL_law 746 = .ok (.aload_n 0, 1) := by decide +kernel
theorem dL_law_747 : decode cL_law 747 = .ok (.iload 4, 2) := by decide +kernel
theorem dL_law_749 : decode cL_law 749 = .ok (.iconst 1, 1) := by decide +kernel
theorem dL_law_750 : decode cL_law 750 = .ok (.iadd, 1) := by decide +kernel
theorem dL_law_751 : decode cL_law 751 = .ok (.iaload, 1) := by decide +kernel
theorem dL_law_752 : decode cL_law 752 = .ok (.aload_n 0, 1) := by decide +kernel
theorem dL_law_753 : decode cL_law 753 = .ok (.iload 4, 2) := by decide +kernel
theorem dL_law_755 : decode cL_law 755 = .ok (.iconst 2, 1) := by decide +kernel
theorem dL_law_756 : decode cL_law 756 = .ok (.iadd, 1) := by decide +kernel
theorem dL_law_757 : decode cL_law 757 = .ok (.iaload, 1) := by decide +kernel
theorem dL_law_758 : decode cL_law 758 = .ok (.aload_n 3, 1) := by decide +kernel
theorem dL_law_759 : decode cL_law 759 = .ok (.invokestatic 105, 3) := by decide +kernel
theorem dL_law_762 : decode cL_law 762 = .ok (.istore 5, 2) := by decide +kernel
theorem dL_law_764 : decode cL_law 764 = .ok (.aload_n 2, 1) := by decide +kernel
theorem dL_law_765 : decode cL_law 765 = .ok (.aload_n 0, 1) := by decide +kernel
theorem dL_law_766 : decode cL_law 766 = .ok (.iload 4, 2) := by decide +kernel
theorem dL_law_768 : decode cL_law 768 = .ok (.iconst 1, 1) := by decide +kernel
theorem dL_law_769 : decode cL_law 769 = .ok (.iadd, 1) := by decide +kernel
theorem dL_law_770 : decode cL_law 770 = .ok (.iaload, 1) := by decide +kernel
theorem dL_law_771 : decode cL_law 771 = .ok (.aload_n 0, 1) := by decide +kernel
theorem dL_law_772 : decode cL_law 772 = .ok (.iload 4, 2) := by decide +kernel
theorem dL_law_774 : decode cL_law 774 = .ok (.iconst 2, 1) := by decide +kernel
theorem dL_law_775 : decode cL_law 775 = .ok (.iadd, 1) := by decide +kernel
theorem dL_law_776 : decode cL_law 776 = .ok (.iaload, 1) := by decide +kernel
theorem dL_law_777 : decode cL_law 777 = .ok (.invokevirtual 107, 3) := by decide +kernel
theorem dL_law_780 : decode cL_law 780 = .ok (.istore 6, 2) := by decide +kernel
theorem dL_law_782 : decode cL_law 782 = .ok (.aload_n 2, 1) := by decide +kernel
theorem dL_law_783 : decode cL_law 783 = .ok (.invokevirtual 65, 3) := by decide +kernel
theorem dL_law_786 : decode cL_law 786 = .ok (.iload 5, 2) := by decide +kernel
theorem dL_law_788 : decode cL_law 788 = .ok (.if_icmp .eq 5, 3) := by decide +kernel
theorem dL_law_791 : decode cL_law 791 = .ok (.iconst 0, 1) := by decide +kernel
theorem dL_law_792 : decode cL_law 792 = .ok (.ireturn, 1) := by decide +kernel
theorem dL_law_793 : decode cL_law 793 = .ok (.iload 5, 2) := by decide +kernel
theorem dL_law_795 : decode cL_law 795 = .ok (.ifCond .ne 15, 3) := by decide +kernel
theorem dL_law_798 : decode cL_law 798 = .ok (.aload_n 3, 1) := by decide +kernel
theorem dL_law_799 : decode cL_law 799 = .ok (.iconst 0, 1) := by decide +kernel
theorem dL_law_800 : decode cL_law 800 = .ok (.laload, 1) := by decide +kernel
theorem dL_law_801 : decode cL_law 801 = .ok (.iload 6, 2) := by decide +kernel
theorem dL_law_803 : decode cL_law 803 = .ok (.i2l, 1) := by decide +kernel
theorem dL_law_804 : decode cL_law 804 = .ok (.lcmp, 1) := by decide +kernel
theorem dL_law_805 : decode cL_law 805 = .ok (.ifCond .eq 5, 3) := by decide +kernel
theorem dL_law_808 : decode cL_law 808 = .ok (.iconst 0, 1) := by decide +kernel
theorem dL_law_809 : decode cL_law 809 = .ok (.ireturn, 1) := by decide +kernel
theorem dL_law_810 : decode cL_law 810 = .ok (.goto 84, 3) := by decide +kernel
theorem dL_law_813 : decode cL_law 813 = .ok (.aload_n 1, 1) := by decide +kernel
theorem dL_law_814 : decode cL_law 814 = .ok (.aload_n 0, 1) := by decide +kernel
theorem dL_law_815 : decode cL_law 815 = .ok (.iload 4, 2) := by decide +kernel
theorem dL_law_817 : decode cL_law 817 = .ok (.iconst 1, 1) := by decide +kernel
theorem dL_law_818 : decode cL_law 818 = .ok (.iadd, 1) := by decide +kernel
theorem dL_law_819 : decode cL_law 819 = .ok (.iaload, 1) := by decide +kernel
theorem dL_law_820 : decode cL_law 820 = .ok (.aload_n 3, 1) := by decide +kernel
theorem dL_law_821 : decode cL_law 821 = .ok (.invokestatic 108, 3) := by decide +kernel
theorem dL_law_824 : decode cL_law 824 = .ok (.istore 5, 2) := by decide +kernel
theorem dL_law_826 : decode cL_law 826 = .ok (.aload_n 2, 1) := by decide +kernel
theorem dL_law_827 : decode cL_law 827 = .ok (.aload_n 0, 1) := by decide +kernel
theorem dL_law_828 : decode cL_law 828 = .ok (.iload 4, 2) := by decide +kernel
theorem dL_law_830 : decode cL_law 830 = .ok (.iconst 1, 1) := by decide +kernel
theorem dL_law_831 : decode cL_law 831 = .ok (.iadd, 1) := by decide +kernel
theorem dL_law_832 : decode cL_law 832 = .ok (.iaload, 1) := by decide +kernel
theorem dL_law_833 : decode cL_law 833 = .ok (.invokevirtual 110, 3) := by decide +kernel
theorem dL_law_836 : decode cL_law 836 = .ok (.istore 6, 2) := by decide +kernel
theorem dL_law_838 : decode cL_law 838 = .ok (.aload_n 2, 1) := by decide +kernel
theorem dL_law_839 : decode cL_law 839 = .ok (.invokevirtual 65, 3) := by decide +kernel
theorem dL_law_842 : decode cL_law 842 = .ok (.iload 5, 2) := by decide +kernel
theorem dL_law_844 : decode cL_law 844 = .ok (.if_icmp .eq 5, 3) := by decide +kernel
theorem dL_law_847 : decode cL_law 847 = .ok (.iconst 0, 1) := by decide +kernel
theorem dL_law_848 : decode cL_law 848 = .ok (.ireturn, 1) := by decide +kernel
theorem dL_law_849 : decode cL_law 849 = .ok (.iload 5, 2) := by decide +kernel
theorem dL_law_851 : decode cL_law 851 = .ok (.ifCond .ne 15, 3) := by decide +kernel
theorem dL_law_854 : decode cL_law 854 = .ok (.aload_n 3, 1) := by decide +kernel
theorem dL_law_855 : decode cL_law 855 = .ok (.iconst 0, 1) := by decide +kernel
theorem dL_law_856 : decode cL_law 856 = .ok (.laload, 1) := by decide +kernel
theorem dL_law_857 : decode cL_law 857 = .ok (.iload 6, 2) := by decide +kernel
theorem dL_law_859 : decode cL_law 859 = .ok (.i2l, 1) := by decide +kernel
theorem dL_law_860 : decode cL_law 860 = .ok (.lcmp, 1) := by decide +kernel
theorem dL_law_861 : decode cL_law 861 = .ok (.ifCond .eq 5, 3) := by decide +kernel
theorem dL_law_864 : decode cL_law 864 = .ok (.iconst 0, 1) := by decide +kernel
theorem dL_law_865 : decode cL_law 865 = .ok (.ireturn, 1) := by decide +kernel
theorem dL_law_866 : decode cL_law 866 = .ok (.goto 28, 3) := by decide +kernel
theorem dL_law_869 : decode cL_law 869 = .ok (.aload_n 1, 1) := by decide +kernel
theorem dL_law_870 : decode cL_law 870 = .ok (.aload_n 0, 1) := by decide +kernel
theorem dL_law_871 : decode cL_law 871 = .ok (.iload 4, 2) := by decide +kernel
theorem dL_law_873 : decode cL_law 873 = .ok (.iconst 1, 1) := by decide +kernel
theorem dL_law_874 : decode cL_law 874 = .ok (.iadd, 1) := by decide +kernel
theorem dL_law_875 : decode cL_law 875 = .ok (.iaload, 1) := by decide +kernel
theorem dL_law_876 : decode cL_law 876 = .ok (.invokevirtual 111, 3) := by decide +kernel
theorem dL_law_879 : decode cL_law 879 = .ok (.aload_n 2, 1) := by decide +kernel
theorem dL_law_880 : decode cL_law 880 = .ok (.aload_n 0, 1) := by decide +kernel
theorem dL_law_881 : decode cL_law 881 = .ok (.iload 4, 2) := by decide +kernel
theorem dL_law_883 : decode cL_law 883 = .ok (.iconst 1, 1) := by decide +kernel
theorem dL_law_884 : decode cL_law 884 = .ok (.iadd, 1) := by decide +kernel
theorem dL_law_885 : decode cL_law 885 = .ok (.iaload, 1) := by decide +kernel
theorem dL_law_886 : decode cL_law 886 = .ok (.invokevirtual 114, 3) := by decide +kernel
theorem dL_law_889 : decode cL_law 889 = .ok (.if_icmp .eq 5, 3) := by decide +kernel
theorem dL_law_892 : decode cL_law 892 = .ok (.iconst 0, 1) := by decide +kernel
theorem dL_law_893 : decode cL_law 893 = .ok (.ireturn, 1) := by decide +kernel
theorem dL_law_894 : decode cL_law 894 = .ok (.iinc 4 4, 3) := by decide +kernel
theorem dL_law_897 : decode cL_law 897 = .ok (.goto (-854), 3) := by decide +kernel
theorem dL_law_900 : decode cL_law 900 = .ok (.iconst 1, 1) := by decide +kernel
theorem dL_law_901 : decode cL_law 901 = .ok (.ireturn, 1) := by decide +kernel
end
section
/-! rows of our own: Java's shifts, contracts' beginnings, calls of methods that only read -/
abbrev jushr (x y : Int32) : Int32 := (x.toUInt32 >>> (y.toUInt32 &&& Int32.toUInt32 31)).toInt32
abbrev jlushr (x : Int64) (y : Int32) : Int64 := (x.toUInt64 >>> (y.toInt64.toUInt64 &&& Int64.toUInt64 63)).toInt64
abbrev jlshl (x : Int64) (y : Int32) : Int64 := x <<< (y.toInt64 &&& 63)
/-- a contract begins: the facts of the body, and the locals -/
theorem cx_of {l : Launch} {y : MethodName} {ws ws' : List Cond} {rm : Room} {cc : ByteArray} {maxL : Nat} {ret : Option FieldType} {argv : List Value} {B : State → Prop} {Qc : Array Value → State → Outcome → State → Prop} {mc ms : Nat} {free : Addr → Prop}
    (hy : plainName y.cls = true) (hw : ws = Cond.code y cc maxL ret :: ws') (hlen : (lg_sl argv).length ≤ maxL)
    (body : ∀ (p : Program) (e : Env) (s : State) (m : MethodId) (below : List Frame) (meth : Method) (c : Code) (ls : Array Slot), p.tables.exec = Jvm.exec → c.code = cc → meth.sig.returnType = ret → (∀ w ∈ ws, w.before argv.toArray s = true) → s.vm.findClass y.cls = some m.cls → meth.locks = false → c.maxLocals = maxL → meth.name = y.name → lv_has ls maxL (lv_args 0 argv) → B s →
      W p l e rm s m argv.toArray below meth c s.heap [] 0 0 (MQ below Qc argv.toArray s mc ms free) (F0 m 0 ls [])) : Met l y ws rm (va_Pc argv B) Qc mc ms free := by
  refine Met.ofW (cc := cc) (maxL := maxL) (ret := ret) hy hw ?_
  intro p e s m args below meth c s₁ Bd hml hv
  obtain ⟨rfl, hB⟩ := hv
  have hl := lv_entry argv (n := maxL) hlen
  rw [lg_entry_eq]
  exact body p e s m below meth c _ Bd.exec Bd.bytes Bd.returns (atoms_spec (ws := ws) Bd.pre) (findClass_of_methodNamed Bd.named) Bd.notSynchronized hml (name_of_methodNamed Bd.named Bd.method).1 hl hB
section CXC
variable {p : Program} {l : Launch} {e : Env} {R : Room} {s : State} {m : MethodId} {args : Array Value} {below : List Frame} {meth : Method} {c : Code} {H : Heap} {locs : List Loc} {cells slots : Nat} {Q : State → Prop} {pc : Nat} {ls : Array Slot} {rest st0 : List Value} {a : Array Value}
theorem cx_callSi {post : Int32 → Prop} (hr : va_Run p l e R s m args below meth c H locs cells slots 0 0 (F0 m pc ls st0) rest (vp_Si post a) (fun _ => False))
    (kk : ∀ r : Int32, post r → W p l e R s m args below meth c H locs cells slots Q (F0 m (pc + 3) ls (.int r :: rest))) : W p l e R s m args below meth c H locs cells slots Q (F0 m pc ls st0) := by
  intro T hT X
  obtain ⟨v, st₀, t, T', L, h0, X', hL, e1, -, ⟨r, hv, hp, hh⟩, st⟩ := hr T hT X
  cases hv
  obtain ⟨t2, a1, b1⟩ := kk r hp T' (by rw [e1, hh, h0]) (Stand.forget X' (fun q h => (hL q h).elim))
  exact ⟨t2, st t2 a1, b1⟩
theorem cx_callSl {post : Int64 → Prop} (hr : va_Run p l e R s m args below meth c H locs cells slots 0 0 (F0 m pc ls st0) rest (vp_Sl post a) (fun _ => False))
    (kk : ∀ r : Int64, post r → W p l e R s m args below meth c H locs cells slots Q (F0 m (pc + 3) ls (.long r :: rest))) : W p l e R s m args below meth c H locs cells slots Q (F0 m pc ls st0) := by
  intro T hT X
  obtain ⟨v, st₀, t, T', L, h0, X', hL, e1, -, ⟨r, hv, hp, hh⟩, st⟩ := hr T hT X
  cases hv
  obtain ⟨t2, a1, b1⟩ := kk r hp T' (by rw [e1, hh, h0]) (Stand.forget X' (fun q h => (hL q h).elim))
  exact ⟨t2, st t2 a1, b1⟩
end CXC
/-- a contract without a world: what it wants of the start is nothing -/
theorem cx_pre0 {s : State} {H : Heap} {As : List Value} : PreS s H (va_Pc As (fun _ => True)) As := ⟨fun _ _ _ _ q => q, fun _ _ _ => ⟨rfl, trivial⟩⟩
/-! indices -/
theorem cx_in {x M : Int32} {n : Nat} (h0 : ¬ x < 0) (h1 : ¬ M ≤ x) (hM : M = nI n) (hn : n < 2 ^ 31 := by decide) : vp_in x n := by
  rcases pk_ix x hn with h | h | ⟨j, hj, rfl⟩
  · exact absurd h h0
  · exact absurd (by rw [hM]; exact h) h1
  · exact vp_in_nI hj hn
theorem cx_inl {x M : Int32} {n : Nat} (h0 : ¬ x < 0) (h1 : x < M) (hM : M = nI n) (hn : n < 2 ^ 31 := by decide) : vp_in x n :=
  cx_in h0 (fun h => absurd (Int32.lt_of_lt_of_le h1 h) Int32.lt_irrefl) hM hn
theorem cx_wordin {h i : Int32} (h0 : ¬ h < 0) (h1 : h < (256 : Int32)) : vp_in ((h * (16 : Int32)) + (i &&& (15 : Int32))) 4096 := by
  obtain ⟨j, hj, rfl⟩ := vp_in_of (cx_inl (n := 256) h0 h1 rfl) (by decide)
  obtain ⟨r, hr, er⟩ := pk_andE i (m := (15 : Int32)) 4 (by decide)
  rw [er, show (16 : Int32) = nI 16 from rfl, pk_mul, nI_add]
  exact vp_in_nI (by omega) (by decide)
theorem cx_swout {x : Int32} (n : Nat) (hn : n < 2 ^ 31) (h : ∀ j : Nat, j ≤ n → ¬ x = nI j) : x.toInt < 0 ∨ (n : Int) < x.toInt := by
  rcases (show x.toInt < 0 ∨ 0 ≤ x.toInt by omega) with h1 | h1
  · exact Or.inl h1
  rcases (show (n : Int) < x.toInt ∨ x.toInt ≤ (n : Int) by omega) with h2 | h2
  · exact Or.inr h2
  exfalso
  have h3 : ¬ x < 0 := fun q => by
    have := Int32.lt_iff_toInt_lt.mp q
    have z : (0 : Int32).toInt = 0 := by decide
    omega
  obtain ⟨j, hj, rfl⟩ := nI_of h3
  rw [nI_toInt hj] at h2
  exact h j (by omega) rfl
theorem cx_free {A : Nat → Prop} {ws : va_W} {H0 H : Heap} {locs : List Loc} (hD : va_D A ws) (hS : va_S A H0 H locs) (hA : ∀ q, H0.size ≤ q → A q) : ∀ q, va_A ws H.size q → A q := by
  intro q h
  rcases h with ⟨k, e, hk⟩ | h
  · exact hD.2 k _ hk
  · exact hA q (Nat.le_trans hS.1 h)
theorem cx_inc {z : Int} (i k : Nat) (h : Int32.ofInt z = nI k) : nI i + Int32.ofInt z = nI (i + k) := by rw [h]; exact nI_add i k
theorem cx_dec {z : Int} (i : Nat) (h : Int32.ofInt z = -1) : nI (i + 1) + Int32.ofInt z = nI i := by rw [h]; exact pk_m1 i
theorem cx_in0 {N : Nat} (h : 0 < N) : vp_in (0 : Int32) N := by
  rw [vp_in_iff]
  have z : (0 : Int32).toInt = 0 := by decide
  omega
theorem cx_fitZ {x : Int32} (h : narrow .boolean (.int x) = .int x) : fits .boolean (.int x) = true := by
  have h1 : x &&& 1 = x := by
    have := h
    simp only [narrow] at this
    exact Value.int.inj this
  simp only [fits]
  rw [← h1]
  obtain ⟨j, hj, e⟩ := pk_andE x (m := (1 : Int32)) 1 (by decide)
  rw [e]
  rcases (show j = 0 ∨ j = 1 by omega) with rfl | rfl <;> decide
end
section
/-! what a contract of the class wants of the start: the world, the tables, the nest's links -/
def nestL : List Cond := nestF.map (fun q => .fieldLinkNest q.1 q.2.1 q.2.2.1 q.2.2.2.1 q.2.2.2.2.1 q.2.2.2.2.2) ++ nestM.map (fun q => .methodLinkNest q.1 q.2.1 q.2.2.1 q.2.2.2)
def NX (U : State) : Prop := ∀ w ∈ nestL, va_Nw w U
theorem nestL_on : ∀ w ∈ nestL, w.onTables = true := by
  intro w hw
  rcases List.mem_append.mp hw with h | h
  · obtain ⟨q, -, rfl⟩ := List.mem_map.mp h
    rfl
  · obtain ⟨q, -, rfl⟩ := List.mem_map.mp h
    rfl
theorem NX.f {U : State} (h : NX U) {args : Array Value} (w : Cond) (hm : w ∈ nestL) : w.before args U = true := va_Nw.use (nestL_on w hm) (h w hm)
theorem NX.nf {U : State} (h : NX U) {args : Array Value} (i : Nat) {a r n d hst : String} {k : Nat} (hi : nestF[i]? = some (a, k, r, n, d, hst)) : (Cond.fieldLinkNest a k r n d hst).before args U = true :=
  h.f _ (List.mem_append_left _ (List.mem_map.mpr ⟨_, List.mem_of_getElem? hi, rfl⟩))
theorem NX.nm {U : State} (h : NX U) (i : Nat) {a hst : String} {k : Nat} {y : MethodName} (hi : nestM[i]? = some (a, k, y, hst)) : va_Nw (.methodLinkNest a k y hst) U :=
  h _ (List.mem_append_right _ (List.mem_map.mpr ⟨_, List.mem_of_getElem? hi, rfl⟩))
theorem NX.m {U : State} (h : NX U) (w : Cond) (hm : w ∈ nestL) : va_Nw w U := h w hm
theorem NX.warm {s U : State} (h : NX s) (hW : s.WarmedH U.vm) : NX U := by
  intro w hw
  have h0 := h w hw
  rcases List.mem_append.mp hw with h1 | h1
  · obtain ⟨q, -, rfl⟩ := List.mem_map.mp h1
    exact va_Nw.warmF hW h0
  · obtain ⟨q, -, rfl⟩ := List.mem_map.mp h1
    exact va_Nw.warmM hW h0
theorem NX.same {s U : State} (h : NX s) (hv : s.vm = U.vm) : NX U := fun w hw => va_Nw.same (nestL_on w hw) hv (h w hw)
def CPre (dC : Nat → ClassId) (dI : Nat → Nat → Nat) (ws : va_W) (tys : List (ClassId × FieldType)) (U : State) : Prop := va_P (dC, dI) vwCl ws U.heap ∧ va_K (dC, dI) vwCl tys U ∧ NX U
def CPrQ (dC : Nat → ClassId) (dI : Nat → Nat → Nat) (ws : va_W) (tys : List (ClassId × FieldType)) (sz : Nat) (U : State) : Prop := U.heap.size = sz ∧ CPre dC dI ws tys U ∧ va_D (fun _ => True) ws
theorem cx_blindS {dC : Nat → ClassId} {dI : Nat → Nat → Nat} {ws : va_W} {tys : List (ClassId × FieldType)} {av : List Value} : FrameBlind (va_Pc av (CPre dC dI ws tys)) :=
  fun a U g mk q => by
    obtain ⟨q0, qP, qK, qN⟩ := q
    exact ⟨q0, qP, va_K.moved (u := U) (U := U.calling g mk a) (Vm.Alike.refl U.vm) qK, qN.same rfl⟩
theorem cx_blindQ {dC : Nat → ClassId} {dI : Nat → Nat → Nat} {ws : va_W} {tys : List (ClassId × FieldType)} {sz : Nat} {av : List Value} : FrameBlind (va_Pc av (CPrQ dC dI ws tys sz)) :=
  fun a U g mk q => by
    obtain ⟨q0, q1, ⟨qP, qK, qN⟩, qD⟩ := q
    exact ⟨q0, q1, ⟨qP, va_K.moved (u := U) (U := U.calling g mk a) (Vm.Alike.refl U.vm) qK, qN.same rfl⟩, qD⟩
section CXP
variable {s : State} {H : Heap} {dC : Nat → ClassId} {dI : Nat → Nat → Nat} {ws : va_W} {tys : List (ClassId × FieldType)} {As : List Value} {b : Addr} {C : String} {A : Nat → Prop}
theorem cx_preVS (hK : va_K (dC, dI) vwCl tys s) (hP : va_P (dC, dI) vwCl ws H) (hN : NX s) (rc : ∃ cellB : Cell, H[b]? = some cellB ∧ cellB.vm.isStatics = false ∧ s.vm.findClass C = some cellB.cls) : PreV s H C b (va_Pc (.ref b :: As) (CPre dC dI ws tys)) As :=
  ⟨cx_blindS, rc, fun U hU hW => ⟨rfl, by rw [hU]; exact hP, va_K.moved hW.alike hK, hN.warm hW⟩⟩
theorem cx_preSS (hK : va_K (dC, dI) vwCl tys s) (hP : va_P (dC, dI) vwCl ws H) (hN : NX s) : PreS s H (va_Pc As (CPre dC dI ws tys)) As :=
  ⟨cx_blindS, fun U hU hW => ⟨rfl, by rw [hU]; exact hP, va_K.moved hW.alike hK, hN.warm hW⟩⟩
theorem cx_preVQ (hK : va_K (dC, dI) vwCl tys s) (hP : va_P (dC, dI) vwCl ws H) (hN : NX s) (rc : ∃ cellB : Cell, H[b]? = some cellB ∧ cellB.vm.isStatics = false ∧ s.vm.findClass C = some cellB.cls) (hD : va_D A ws) : PreV s H C b (va_Pc (.ref b :: As) (CPrQ dC dI ws tys H.size)) As :=
  ⟨cx_blindQ, rc, fun U hU hW => ⟨rfl, by rw [hU], ⟨by rw [hU]; exact hP, va_K.moved hW.alike hK, hN.warm hW⟩, hD.weaken (fun _ _ _ _ => trivial)⟩⟩
theorem cx_preSQ (hK : va_K (dC, dI) vwCl tys s) (hP : va_P (dC, dI) vwCl ws H) (hN : NX s) (hD : va_D A ws) : PreS s H (va_Pc As (CPrQ dC dI ws tys H.size)) As :=
  ⟨cx_blindQ, fun U hU hW => ⟨rfl, by rw [hU], ⟨by rw [hU]; exact hP, va_K.moved hW.alike hK, hN.warm hW⟩, hD.weaken (fun _ _ _ _ => trivial)⟩⟩
end CXP
theorem cx_recvP {D : va_G} {cl : List vw_C} {X : va_W} {LP : List Nat} {f : Nat → va_E} {H : Heap} {s : State} {tys : List (ClassId × FieldType)} {ci y : Nat} {fs : List Value} {q : vw_C} (hK : va_K D cl tys s) (hP : va_P D cl (X ++ va_pl LP f) H) (hm : y ∈ LP) (hc : cl[ci]? = some q) (hf : f y = .inr (ci, fs)) : ∃ cell : Cell, H[y]? = some cell ∧ cell.vm.isStatics = false ∧ s.vm.findClass q.1 = some cell.cls := by
  obtain ⟨k, hk⟩ := va_pl_get (X := X) (f := f) hm
  rw [hf] at hk
  exact va_recv hK hP hc hk
section CXA
variable {p : Program} {l : Launch} {e : Env} {R : Room} {s : State} {m : MethodId} {args : Array Value} {below : List Frame} {meth : Method} {c : Code} {H : Heap} {locs : List Loc} {cells slots : Nat} {Q : State → Prop} {cc : ByteArray} {pc : Nat} {ls : Array Slot} {rest : List Value} {D : va_G} {cl : List vw_C} {A : Nat → Prop} {a : Nat} {tys : List (ClassId × FieldType)} {ws : va_W} {H0 : Heap}
theorem cx_aald (hexec : p.tables.exec = Jvm.exec) (hb : c.code = cc) (hK : va_K D cl tys s) (hP : va_P D cl ws H) (q0 t0 : Nat) {cA : ClassId} {C : String} {n : Nat} {f : Nat → Option Nat} (ha : ws[q0]? = some (a, .inl (cA, n, .inr (.inr (.inr (.inr f)))))) (ht : tys[t0]? = some (cA, .object C)) {i : Int32} (hin : vp_in i n) {y : Nat} (hy : f i.toNatClampNeg = some y) (hdg : decode cc pc = .ok (.aaload, 1))
    (kk : W p l e R s m args below meth c H locs cells slots Q (F0 m (pc + 1) ls (.ref y :: rest))) : W p l e R s m args below meth c H locs cells slots Q (F0 m pc ls (.int i :: .ref a :: rest)) :=
  va_aldq hexec hb hK hP q0 t0 ha ht hin hdg (by rw [hy]; exact kk)
end CXA
/-- an entry's cell: its six numbers by their places -/
abbrev CEf (E : Nat → Nat → Int32) : Nat → va_E := fun y => .inr (1, [.int (E 0 y), .int (E 1 y), .int (E 2 y), .int (E 3 y), .int (E 4 y), .int (E 5 y)])
abbrev CWx (a : Nat → Nat) (k : Nat → ClassId) (N : Nat) (L : Nat) (f1 f2 f3 f4 f5 f6 f7 f8 : Int32) (rd : Nat) (f10 f11 f12 : Int32) (n : Nat) (f14 : Int32) (lf : Int64) (wd : Nat → Int64) (ho ro pa : Nat → Int32) (rs : Nat → Option Nat) : va_W :=
  [(a 0, .inr (4, [.int (nI L), .ref (a 1), .ref (a 4), .ref (a 6), .ref (a 8), .int f1, .int f2, .int f3, .int f4, .int f5, .int f6, .int f7])),
   (a 1, .inr (2, [.ref (a 2), .ref (a 3), .int f8])),
   (a 2, .inl (k 0, 4096, .inr (.inl wd))),
   (a 3, .inl (k 1, 256, .inl ho)),
   (a 4, .inr (3, [.ref (a 1), .int (nI L), .ref (a 5), .int (nI rd), .long lf, .int f10, .int f11, .int f12])),
   (a 5, .inl (k 2, 4, .inl pa)),
   (a 6, .inr (0, [.ref (a 7), .int (nI n), .int f14])),
   (a 7, .inl (k 3, N, .inr (.inr (.inr (.inr rs))))),
   (a 8, .inl (k 4, 4, .inl ro))]
/-- THE CLASS'S WORLD: nine cells, and the entries at LP -/
abbrev CWl (a : Nat → Nat) (k : Nat → ClassId) (LP : List Nat) (N : Nat) (L : Nat) (f1 f2 f3 f4 f5 f6 f7 f8 : Int32) (rd : Nat) (f10 f11 f12 : Int32) (n : Nat) (f14 : Int32) (lf : Int64) (wd : Nat → Int64) (ho ro pa : Nat → Int32) (rs : Nat → Option Nat) (E : Nat → Nat → Int32) : va_W := CWx a k N L f1 f2 f3 f4 f5 f6 f7 f8 rd f10 f11 f12 n f14 lf wd ho ro pa rs ++ va_pl LP (CEf E)
def setE (E : Nat → Nat → Int32) (j y : Nat) (v : Int32) : Nat → Nat → Int32 := va_up E j (upd (E j) y v)
theorem CEf_set (E : Nat → Nat → Int32) (y : Nat) (v : Int32) : ∀ j, j < 6 → va_up (CEf E) y (.inr (1, ([.int (E 0 y), .int (E 1 y), .int (E 2 y), .int (E 3 y), .int (E 4 y), .int (E 5 y)] : List Value).set j (.int v))) = CEf (setE E j y v) := by
  intro j hj
  funext z
  by_cases hz : z = y
  · subst hz
    rcases (show j = 0 ∨ j = 1 ∨ j = 2 ∨ j = 3 ∨ j = 4 ∨ j = 5 by omega) with rfl | rfl | rfl | rfl | rfl | rfl <;> simp [va_up, CEf, upd, setE]
  · have e1 : ∀ i, (setE E j y v) i z = E i z := by
      intro i
      by_cases hi : i = j
      · subst hi
        simp [setE, va_up, upd, hz]
      · simp [setE, va_up, hi]
    simp only [va_up_ne _ _ hz, CEf, e1]
section CXE
variable {p : Program} {l : Launch} {e : Env} {R : Room} {s : State} {m : MethodId} {args : Array Value} {below : List Frame} {meth : Method} {c : Code} {H : Heap} {locs : List Loc} {cells slots : Nat} {Q : State → Prop} {cc : ByteArray} {pc : Nat} {ls : Array Slot} {rest : List Value} {D : va_G} {A : Nat → Prop} {tys : List (ClassId × FieldType)} {H0 : Heap}
theorem cx_putEN (hexec : p.tables.exec = Jvm.exec) (hb : c.code = cc) {own ref host : String} {index : Nat} {Ts : List Cond} {X : va_W} {LP : List Nat} {E : Nat → Nat → Int32} {y : Nat} (hts : ∀ w ∈ Ts, w.before args s = true) (hin : ∀ w ∈ u_ws RX1 TX1 6, w ∈ Ts) (hown : s.vm.findClass own = some m.cls) (hK : va_K D vwCl tys s) (hP : va_P D vwCl (X ++ va_pl LP (CEf E)) H) (hD : va_D A (X ++ va_pl LP (CEf E))) (hS0 : va_S A H0 H locs) (hm : y ∈ LP) (j : Nat) (hj : j < 6)
    (hlink : (Cond.fieldLinkNest own index ref (TX1 j).2.1 (TX1 j).2.2.1 host).before args s = true) (hsame : ∀ x, s.fieldFound? (TX1 j).1 (TX1 j).2.1 (TX1 j).2.2.1 = some x → s.fieldFound? ref (TX1 j).2.1 (TX1 j).2.2.1 = some x) (hfin : (TX1 j).2.2.2 = false) {ty : FieldType} {v : Int32} (hd : parseFieldDescriptor (TX1 j).2.2.1 = some ty) (hn : narrow ty (.int v) = .int v) (hfit : fits ty (.int v) = true) (hdg : decode cc pc = .ok (.putfield index, 3))
    (kk : ∀ (H1 : Heap) (locs1 : List Loc), va_P D vwCl (X ++ va_pl LP (CEf (setE E j y v))) H1 → va_D A (X ++ va_pl LP (CEf (setE E j y v))) → va_S A H0 H1 locs1 → W p l e R s m args below meth c H1 locs1 cells slots Q (F0 m (pc + 3) ls rest)) : W p l e R s m args below meth c H locs cells slots Q (F0 m pc ls (.int v :: .ref y :: rest)) := by
  obtain ⟨k, hk⟩ := va_pl_get (X := X) (f := CEf E) hm
  refine va_putN (ci := 1) hexec hb hts hin tyX1 tyX1_ok nmX1 hown hK hP hD hS0 k hk rfl j hj hlink hsame hfin hd hn hfit hj hdg (fun H1 locs1 hP1 hD1 hS1 => ?_)
  rw [va_pl_set hD hm hk, CEf_set E y v j hj] at hP1 hD1
  exact kk H1 locs1 hP1 hD1 hS1
end CXE
end
section
def strL : List (Nat × String) := [(53, "no such word"), (62, "no such context"), (66, "no such frame"), (70, "no such host"), (83, "no such kind"), (110, "no such flush"), (118, "no such entry"), (120, "no such part of an entry")]
/-! what a throw wants of the start: words that don't keep by themselves, the texts, two statics of Throwable -/
def IOE : String := "java/lang/IndexOutOfBoundsException"
def IAE : String := "java/lang/IllegalArgumentException"
abbrev exN : List String := ["java/lang/RuntimeException", "java/lang/Exception"]
def excN : Nat → String
  | 0 => IOE
  | _ => IAE
def XW (U : State) : Prop := va_Nw (.castable IOE IOE) U ∧ va_Nw (.castable IAE IAE) U ∧ va_Nw (.declares ⟨"java/lang/RuntimeException", "<init>", "(Ljava/lang/String;)V"⟩) U ∧ va_Nw (.declares ⟨"java/lang/Exception", "<init>", "(Ljava/lang/String;)V"⟩) U ∧ va_Nw (.declares ⟨"java/lang/Throwable", "<init>", "(Ljava/lang/String;)V"⟩) U ∧ ∀ q ∈ strL, ∃ sa, vk_R RX4 q.1 q.2 sa U
def XZ (A : Nat → Prop) (U : State) (H : Heap) : Prop := vx_Zq Bundle.tN "UNASSIGNED_STACK" Bundle.steD A U H ∧ vx_Zq Bundle.tN "SUPPRESSED_SENTINEL" Bundle.listD A U H
theorem XW.warm {s U : State} (h : XW s) (hW : s.WarmedH U.vm) : XW U :=
  ⟨va_Nw.warmC hW h.1, va_Nw.warmC hW h.2.1, va_Nw.warmD hW h.2.2.1, va_Nw.warmD hW h.2.2.2.1, va_Nw.warmD hW h.2.2.2.2.1, fun q hq => by
    obtain ⟨sa, h1⟩ := h.2.2.2.2.2 q hq
    exact ⟨sa, vk_R.warm hW h1⟩⟩
theorem XW.same {s U : State} (h : XW s) (hv : s.vm = U.vm) : XW U :=
  ⟨va_Nw.same rfl hv h.1, va_Nw.same rfl hv h.2.1, va_Nw.same rfl hv h.2.2.1, va_Nw.same rfl hv h.2.2.2.1, va_Nw.same rfl hv h.2.2.2.2.1, fun q hq => by
    obtain ⟨sa, h1⟩ := h.2.2.2.2.2 q hq
    exact ⟨sa, vk_R.same hv.symm h1⟩⟩
theorem XZ.moved {A : Nat → Prop} {u U : State} {H : Heap} (hvm : u.vm.Alike U.vm) (h : XZ A u H) : XZ A U H := ⟨vx_Zq.moved hvm h.1, vx_Zq.moved hvm h.2⟩
theorem XZ.kept {A : Nat → Prop} {U : State} {H H1 : Heap} (h : XZ A U H) (hq : ∀ a : Nat, a < H.size → ¬ A a → H1[a]? = H[a]?) : XZ A U H1 := ⟨vx_Zq.kept h.1 hq, vx_Zq.kept h.2 hq⟩
theorem XZ.narrow {A B : Nat → Prop} {U : State} {H : Heap} (h : XZ A U H) (hAB : ∀ q, B q → A q) : XZ B U H := ⟨vx_Zq.narrow h.1 hAB, vx_Zq.narrow h.2 hAB⟩
def CPrX (dC : Nat → ClassId) (dI : Nat → Nat → Nat) (ws : va_W) (tys : List (ClassId × FieldType)) (sz : Nat) (U : State) : Prop := CPrQ dC dI ws tys sz U ∧ XW U ∧ XZ (va_A ws sz) U U.heap
theorem cx_blindX {dC : Nat → ClassId} {dI : Nat → Nat → Nat} {ws : va_W} {tys : List (ClassId × FieldType)} {sz : Nat} {av : List Value} : FrameBlind (va_Pc av (CPrX dC dI ws tys sz)) :=
  fun a U g mk q => by
    obtain ⟨q0, ⟨q1, ⟨qP, qK, qN⟩, qD⟩, qW, qZ⟩ := q
    exact ⟨q0, ⟨q1, ⟨qP, va_K.moved (u := U) (U := U.calling g mk a) (Vm.Alike.refl U.vm) qK, qN.same rfl⟩, qD⟩, qW.same rfl, XZ.moved (u := U) (U := U.calling g mk a) (Vm.Alike.refl U.vm) qZ⟩
/-- a contract of a method that may throw begins -/
theorem cx_ofX {l : Launch} {y : MethodName} {ws ws' : List Cond} {rm : Room} {cc : ByteArray} {maxL : Nat} {ret : Option FieldType} {argv : List Value} {B : State → Prop} {Qc : Array Value → State → Outcome → State → Prop} {XC : String → State → State → Prop} {mc ms : Nat} {free : Addr → Prop}
    (hy : plainName y.cls = true) (hw : ws = Cond.code y cc maxL ret :: ws') (hlen : (lg_sl argv).length ≤ maxL)
    (body : ∀ (p : Program) (e : Env) (s : State) (m : MethodId) (below : List Frame) (meth : Method) (c : Code) (ls : Array Slot), p.tables.exec = Jvm.exec → c.code = cc → meth.sig.returnType = ret → (∀ w ∈ ws, w.before argv.toArray s = true) → s.vm.findClass y.cls = some m.cls → meth.locks = false → c.maxLocals = maxL → (∀ x ∈ c.exceptionTable.toList, False) → lv_has ls maxL (lv_args 0 argv) → B s →
      W p l e rm s m argv.toArray below meth c s.heap [] 0 0 (vx_MQ below Qc XC argv.toArray s mc ms free) (F0 m 0 ls [])) : vx_Met l y ws rm (va_Pc argv B) Qc XC mc ms free := by
  refine vx_ofW (cc := cc) (maxL := maxL) (ret := ret) hy hw ?_
  intro p e s m args below meth c s₁ Bd hml hEx hv
  obtain ⟨rfl, hB⟩ := hv
  have hl := lv_entry argv (n := maxL) hlen
  rw [lg_entry_eq]
  exact body p e s m below meth c _ Bd.exec Bd.bytes Bd.returns (atoms_spec (ws := ws) Bd.pre) (findClass_of_methodNamed Bd.named) Bd.notSynchronized hml hEx hl hB
theorem atI_good : ∀ w ∈ (vx_atS RX4 55 IOE exN).filter goodWord, w ∈ AW := by
  intro w hw
  have h := (by decide +kernel : ((vx_atS RX4 55 IOE exN).filter goodWord).all (fun w => decide (w ∈ lw_tbl)) = true)
  exact List.mem_filter.mpr ⟨by simpa using List.all_eq_true.mp h w hw, (List.mem_filter.mp hw).2⟩
theorem atA_good : ∀ w ∈ (vx_atS RX4 68 IAE exN).filter goodWord, w ∈ AW := by
  intro w hw
  have h := (by decide +kernel : ((vx_atS RX4 68 IAE exN).filter goodWord).all (fun w => decide (w ∈ lw_tbl)) = true)
  exact List.mem_filter.mpr ⟨by simpa using List.all_eq_true.mp h w hw, (List.mem_filter.mp hw).2⟩
theorem atI_hat {args : Array Value} {s : State} (hta : ∀ w ∈ AW, w.before args s = true) (hX : XW s) : ∀ w ∈ vx_atS RX4 55 IOE exN, w.before args s = true :=
  vx_hat (B := [.castable IOE IOE, .declares ⟨"java/lang/RuntimeException", "<init>", "(Ljava/lang/String;)V"⟩, .declares ⟨"java/lang/Exception", "<init>", "(Ljava/lang/String;)V"⟩, .declares ⟨"java/lang/Throwable", "<init>", "(Ljava/lang/String;)V"⟩]) (fun w hw => hta w (atI_good w hw)) (by decide +kernel)
    (vx_c (va_Nw.use rfl hX.1) (vx_c (va_Nw.use rfl hX.2.2.1) (vx_c (va_Nw.use rfl hX.2.2.2.1) (vx_c (va_Nw.use rfl hX.2.2.2.2.1) vx_n))))
theorem atA_hat {args : Array Value} {s : State} (hta : ∀ w ∈ AW, w.before args s = true) (hX : XW s) : ∀ w ∈ vx_atS RX4 68 IAE exN, w.before args s = true :=
  vx_hat (B := [.castable IAE IAE, .declares ⟨"java/lang/RuntimeException", "<init>", "(Ljava/lang/String;)V"⟩, .declares ⟨"java/lang/Exception", "<init>", "(Ljava/lang/String;)V"⟩, .declares ⟨"java/lang/Throwable", "<init>", "(Ljava/lang/String;)V"⟩]) (fun w hw => hta w (atA_good w hw)) (by decide +kernel)
    (vx_c (va_Nw.use rfl hX.2.1) (vx_c (va_Nw.use rfl hX.2.2.1) (vx_c (va_Nw.use rfl hX.2.2.2.1) (vx_c (va_Nw.use rfl hX.2.2.2.2.1) vx_n))))
theorem atI_ot (ik : Nat) : ∀ w ∈ Cond.classLink RX4 ik IOE :: Cond.initialized IOE :: vx_atS RX4 55 IOE exN, vx_ot w = true := by
  intro w hw
  rcases List.mem_cons.mp hw with e | hw
  · rw [e]; rfl
  · exact List.all_eq_true.mp (by decide +kernel : (Cond.initialized IOE :: vx_atS RX4 55 IOE exN).all vx_ot = true) w hw
theorem atA_ot (ik : Nat) : ∀ w ∈ Cond.classLink RX4 ik IAE :: Cond.initialized IAE :: vx_atS RX4 68 IAE exN, vx_ot w = true := by
  intro w hw
  rcases List.mem_cons.mp hw with e | hw
  · rw [e]; rfl
  · exact List.all_eq_true.mp (by decide +kernel : (Cond.initialized IAE :: vx_atS RX4 68 IAE exN).all vx_ot = true) w hw
section CXX
variable {p : Program} {l : Launch} {e : Env} {R : Room} {s : State} {m : MethodId} {args : Array Value} {below : List Frame} {meth : Method} {c : Code} {H : Heap} {locs : List Loc} {cells slots : Nat} {cc : ByteArray} {pc : Nat} {ls : Array Slot} {rest : List Value} {A : Nat → Prop} {nL : Nat} {lv : List (Nat × Value)} {Qc : Array Value → State → Outcome → State → Prop} {XC : String → State → State → Prop} {free : Addr → Prop}
theorem cx_throwI (hx : p.tables.exec = Jvm.exec) (hb : c.code = cc) (hl9 : l.stackTraces = false) (hown : s.vm.findClass RX4 = some m.cls) (hta : ∀ w ∈ AW, w.before args s = true) {ik is : Nat} {text : String} (hik : .classLink RX4 ik IOE ∈ AW) (hin : .initialized IOE ∈ AW) (hst : (is, text) ∈ strL) (hXW : XW s) (hXZ : XZ A s s.heap) (hS : va_S A s.heap H locs) (hl : lv_has ls nL lv) (hml : c.maxLocals = nL)
    (d0 : decode cc pc = .ok (.new ik, 3)) (d3 : decode cc (pc + 3) = .ok (.dup, 1)) (d4 : decode cc (pc + 4) = .ok (.ldc is, 2)) (d6 : decode cc (pc + 6) = .ok (.invokespecial 55, 3)) (d9 : decode cc (pc + 9) = .ok (.athrow, 1)) (hEx : ∀ x ∈ c.exceptionTable.toList, False)
    (h1 : 5 < R.frames) (h2 : (rest.map fun v => v.category).sum + 82 ≤ R.locals) (h3 : cells + 1 ≤ R.cells) (h4 : slots + 6 ≤ R.slots) (hlocks : meth.locks = false) (hf : ∀ z ∈ locs, free z.base) (h5 : cells + 1 ≤ 1) (h6 : slots + 6 ≤ 6)
    (hq : ∀ t : State, s.vm.Alike t.vm → H.size ≤ t.heap.size → (∀ q : Nat, q < H.size → t.heap[q]? = H[q]?) → XC IOE s t) : W p l e R s m args below meth c H locs cells slots (vx_MQ below Qc XC args s 1 6 free) (F0 m pc ls rest) := by
  obtain ⟨sa, hR⟩ := hXW.2.2.2.2.2 _ hst
  exact vx_throwS (own := RX4) (cls := IOE) (names := exN) hx hb hl9 hown (by decide +kernel) (by decide +kernel) (hta _ hik) (hta _ hin) hR (atI_hat hta hXW) (atI_ot ik) hXZ.1 hXZ.2 hS (hl.1.trans hml.symm) d0 d3 d4 d6 d9 (fun x h => (hEx x h).elim) h1 h2 h3 h4 hlocks hq hf h5 h6
theorem cx_throwA (hx : p.tables.exec = Jvm.exec) (hb : c.code = cc) (hl9 : l.stackTraces = false) (hown : s.vm.findClass RX4 = some m.cls) (hta : ∀ w ∈ AW, w.before args s = true) {ik is : Nat} {text : String} (hik : .classLink RX4 ik IAE ∈ AW) (hin : .initialized IAE ∈ AW) (hst : (is, text) ∈ strL) (hXW : XW s) (hXZ : XZ A s s.heap) (hS : va_S A s.heap H locs) (hl : lv_has ls nL lv) (hml : c.maxLocals = nL)
    (d0 : decode cc pc = .ok (.new ik, 3)) (d3 : decode cc (pc + 3) = .ok (.dup, 1)) (d4 : decode cc (pc + 4) = .ok (.ldc is, 2)) (d6 : decode cc (pc + 6) = .ok (.invokespecial 68, 3)) (d9 : decode cc (pc + 9) = .ok (.athrow, 1)) (hEx : ∀ x ∈ c.exceptionTable.toList, False)
    (h1 : 5 < R.frames) (h2 : (rest.map fun v => v.category).sum + 82 ≤ R.locals) (h3 : cells + 1 ≤ R.cells) (h4 : slots + 6 ≤ R.slots) (hlocks : meth.locks = false) (hf : ∀ z ∈ locs, free z.base) (h5 : cells + 1 ≤ 1) (h6 : slots + 6 ≤ 6)
    (hq : ∀ t : State, s.vm.Alike t.vm → H.size ≤ t.heap.size → (∀ q : Nat, q < H.size → t.heap[q]? = H[q]?) → XC IAE s t) : W p l e R s m args below meth c H locs cells slots (vx_MQ below Qc XC args s 1 6 free) (F0 m pc ls rest) := by
  obtain ⟨sa, hR⟩ := hXW.2.2.2.2.2 _ hst
  exact vx_throwS (own := RX4) (cls := IAE) (names := exN) hx hb hl9 hown (by decide +kernel) (by decide +kernel) (hta _ hik) (hta _ hin) hR (atA_hat hta hXW) (atA_ot ik) hXZ.1 hXZ.2 hS (hl.1.trans hml.symm) d0 d3 d4 d6 d9 (fun x h => (hEx x h).elim) h1 h2 h3 h4 hlocks hq hf h5 h6
end CXX
end
section
/-- PageRows.bitsBelow -/
def mX4_bitsBelow (p0 : Int32) : Int32 :=
  (8 : Int32) + ((4 : Int32) * p0)
set_option maxHeartbeats 4000000 in
set_option maxRecDepth 100000 in
theorem c_X4_bitsBelow (l : Launch) (p0 : Int32) : Met l yX4_bitsBelow (wX4_bitsBelow :: AW) ({ frames := 0, cells := 0, slots := 0, locals := 0 }) (va_Pc [.int p0] (fun _ => True)) (vp_Si (fun r => r = mX4_bitsBelow p0)) 0 0 (fun _ => False) := by
  refine cx_of (cc := cX4_bitsBelow) (maxL := 1) (ret := some .int) (by decide) rfl (Nat.le_of_ble_eq_true rfl) ?_
  intro p e s m below meth c ls hx hb hr hts hown hlocks hml hnm hl hB
  have hta : ∀ w ∈ AW, w.before [.int p0].toArray s = true := fun w h => hts w (List.mem_cons_of_mem _ h)
  have hl : lv_has ls 1 [(0, .int p0)] := hl
  have hown : s.vm.findClass RX4 = some m.cls := hown
  refine lv_bipush (v := 8) hx hb dX4_bitsBelow_0 (by decide) ?_
  refine lv_iconst (v := 4) hx hb dX4_bitsBelow_2 (by decide) ?_
  refine lv_iload_n hx hb dX4_bitsBelow_3 rfl (lv_at hl 0 rfl) ?_
  refine lv_imul hx hb dX4_bitsBelow_4 ?_
  refine lv_iadd hx hb dX4_bitsBelow_5 ?_
  exact W.iret (v := (8 : Int32) + ((4 : Int32) * p0)) hx hb hr (fun t ht hW => ⟨(8 : Int32) + ((4 : Int32) * p0), rfl, (by unfold mX4_bitsBelow; (first | done | rfl)), ht⟩) (fun q h => nomatch h) dX4_bitsBelow_6
/-- PageRows.frameOf -/
def mX4_frameOf (p0 : Int64) : Int32 :=
  ((jlushr p0 (8 : Int32)).toInt32) &&& (1048575 : Int32)
set_option maxHeartbeats 4000000 in
set_option maxRecDepth 100000 in
theorem c_X4_frameOf (l : Launch) (p0 : Int64) : Met l yX4_frameOf (wX4_frameOf :: AW) ({ frames := 0, cells := 0, slots := 0, locals := 0 }) (va_Pc [.long p0] (fun _ => True)) (vp_Si (fun r => r = mX4_frameOf p0)) 0 0 (fun _ => False) := by
  refine cx_of (cc := cX4_frameOf) (maxL := 2) (ret := some .int) (by decide) rfl (Nat.le_of_ble_eq_true rfl) ?_
  intro p e s m below meth c ls hx hb hr hts hown hlocks hml hnm hl hB
  have hta : ∀ w ∈ AW, w.before [.long p0].toArray s = true := fun w h => hts w (List.mem_cons_of_mem _ h)
  have hl : lv_has ls 2 [(0, .long p0)] := hl
  have hown : s.vm.findClass RX4 = some m.cls := hown
  refine lv_lload_n hx hb dX4_frameOf_0 rfl (lv_at hl 0 rfl) ?_
  refine lv_bipush (v := 8) hx hb dX4_frameOf_1 (by decide) ?_
  refine lv_lushr (v := jlushr p0 (8 : Int32)) hx hb dX4_frameOf_3 rfl ?_
  refine lv_l2i (v := (jlushr p0 (8 : Int32)).toInt32) hx hb dX4_frameOf_4 rfl ?_
  refine lv_ldc (v := 1048575) hx hb hown (hta _ aw_410) dX4_frameOf_5 ?_
  refine lv_iand hx hb dX4_frameOf_7 ?_
  exact W.iret (v := ((jlushr p0 (8 : Int32)).toInt32) &&& (1048575 : Int32)) hx hb hr (fun t ht hW => ⟨((jlushr p0 (8 : Int32)).toInt32) &&& (1048575 : Int32), rfl, (by unfold mX4_frameOf; (first | done | rfl)), ht⟩) (fun q h => nomatch h) dX4_frameOf_8
/-- PageRows.rightsOf -/
def mX4_rightsOf (p0 : Int64) : Int32 :=
  ((jlushr p0 (1 : Int32)).toInt32) &&& (15 : Int32)
set_option maxHeartbeats 4000000 in
set_option maxRecDepth 100000 in
theorem c_X4_rightsOf (l : Launch) (p0 : Int64) : Met l yX4_rightsOf (wX4_rightsOf :: AW) ({ frames := 0, cells := 0, slots := 0, locals := 0 }) (va_Pc [.long p0] (fun _ => True)) (vp_Si (fun r => r = mX4_rightsOf p0)) 0 0 (fun _ => False) := by
  refine cx_of (cc := cX4_rightsOf) (maxL := 2) (ret := some .int) (by decide) rfl (Nat.le_of_ble_eq_true rfl) ?_
  intro p e s m below meth c ls hx hb hr hts hown hlocks hml hnm hl hB
  have hta : ∀ w ∈ AW, w.before [.long p0].toArray s = true := fun w h => hts w (List.mem_cons_of_mem _ h)
  have hl : lv_has ls 2 [(0, .long p0)] := hl
  have hown : s.vm.findClass RX4 = some m.cls := hown
  refine lv_lload_n hx hb dX4_rightsOf_0 rfl (lv_at hl 0 rfl) ?_
  refine lv_iconst (v := 1) hx hb dX4_rightsOf_1 (by decide) ?_
  refine lv_lushr (v := jlushr p0 (1 : Int32)) hx hb dX4_rightsOf_2 rfl ?_
  refine lv_l2i (v := (jlushr p0 (1 : Int32)).toInt32) hx hb dX4_rightsOf_3 rfl ?_
  refine lv_bipush (v := 15) hx hb dX4_rightsOf_4 (by decide) ?_
  refine lv_iand hx hb dX4_rightsOf_6 ?_
  exact W.iret (v := ((jlushr p0 (1 : Int32)).toInt32) &&& (15 : Int32)) hx hb hr (fun t ht hW => ⟨((jlushr p0 (1 : Int32)).toInt32) &&& (15 : Int32), rfl, (by unfold mX4_rightsOf; (first | done | rfl)), ht⟩) (fun q h => nomatch h) dX4_rightsOf_7
/-- PageRows.isKind -/
def mX4_isKind (p0 : Int32) : Int32 :=
  if p0 < 0 then
    (0 : Int32)
  else
    if (6 : Int32) ≤ p0 then
      (0 : Int32)
    else
      (1 : Int32)
set_option maxHeartbeats 4000000 in
set_option maxRecDepth 100000 in
theorem c_X4_isKind (l : Launch) (p0 : Int32) : Met l yX4_isKind (wX4_isKind :: AW) ({ frames := 0, cells := 0, slots := 0, locals := 0 }) (va_Pc [.int p0] (fun _ => True)) (vp_Si (fun r => r = mX4_isKind p0)) 0 0 (fun _ => False) := by
  refine cx_of (cc := cX4_isKind) (maxL := 1) (ret := some .boolean) (by decide) rfl (Nat.le_of_ble_eq_true rfl) ?_
  intro p e s m below meth c ls hx hb hr hts hown hlocks hml hnm hl hB
  have hta : ∀ w ∈ AW, w.before [.int p0].toArray s = true := fun w h => hts w (List.mem_cons_of_mem _ h)
  have hl : lv_has ls 1 [(0, .int p0)] := hl
  have hown : s.vm.findClass RX4 = some m.cls := hown
  refine lv_iload_n hx hb dX4_isKind_0 rfl (lv_at hl 0 rfl) ?_
  refine lv_if_lt (tgt := 14) hx hb dX4_isKind_1 (by decide) (fun c_1_0 => ?_) (fun c_1_0 => ?_)
  · refine lv_iconst (v := 0) hx hb dX4_isKind_14 (by decide) ?_
    exact W.zret (ty := .boolean) (v := (0 : Int32)) hx hb hr rfl (fun t ht hW => ⟨(0 : Int32), rfl, (by unfold mX4_isKind; rewrite [if_pos c_1_0]; (first | done | rfl)), ht⟩) (fun q h => nomatch h) dX4_isKind_15
  · refine lv_iload_n hx hb dX4_isKind_4 rfl (lv_at hl 0 rfl) ?_
    refine lv_bipush (v := 6) hx hb dX4_isKind_5 (by decide) ?_
    refine lv_icmp_ge (tgt := 14) hx hb dX4_isKind_7 (by decide) (fun c_7_1 => ?_) (fun c_7_1 => ?_)
    · refine lv_iconst (v := 0) hx hb dX4_isKind_14 (by decide) ?_
      exact W.zret (ty := .boolean) (v := (0 : Int32)) hx hb hr rfl (fun t ht hW => ⟨(0 : Int32), rfl, (by unfold mX4_isKind; rewrite [if_neg c_1_0]; rewrite [if_pos c_7_1]; (first | done | rfl)), ht⟩) (fun q h => nomatch h) dX4_isKind_15
    · refine lv_iconst (v := 1) hx hb dX4_isKind_10 (by decide) ?_
      refine lv_goto (tgt := 15) hx hb dX4_isKind_11 (by decide) ?_
      exact W.zret (ty := .boolean) (v := (1 : Int32)) hx hb hr rfl (fun t ht hW => ⟨(1 : Int32), rfl, (by unfold mX4_isKind; rewrite [if_neg c_1_0]; rewrite [if_neg c_7_1]; (first | done | rfl)), ht⟩) (fun q h => nomatch h) dX4_isKind_15
theorem mX4_isKind_z (p0 : Int32) : narrow .boolean (.int (mX4_isKind p0)) = .int (mX4_isKind p0) := by
  unfold mX4_isKind
  repeat' split
  all_goals first | rfl | exact rfl
/-- PageRows.isWrite -/
def mX4_isWrite (p0 : Int32) : Int32 :=
  if (p0 - p0 / (3 : Int32) * (3 : Int32)) = (1 : Int32) then
    (1 : Int32)
  else
    (0 : Int32)
set_option maxHeartbeats 4000000 in
set_option maxRecDepth 100000 in
theorem c_X4_isWrite (l : Launch) (p0 : Int32) : Met l yX4_isWrite (wX4_isWrite :: AW) ({ frames := 0, cells := 0, slots := 0, locals := 0 }) (va_Pc [.int p0] (fun _ => True)) (vp_Si (fun r => r = mX4_isWrite p0)) 0 0 (fun _ => False) := by
  refine cx_of (cc := cX4_isWrite) (maxL := 1) (ret := some .boolean) (by decide) rfl (Nat.le_of_ble_eq_true rfl) ?_
  intro p e s m below meth c ls hx hb hr hts hown hlocks hml hnm hl hB
  have hta : ∀ w ∈ AW, w.before [.int p0].toArray s = true := fun w h => hts w (List.mem_cons_of_mem _ h)
  have hl : lv_has ls 1 [(0, .int p0)] := hl
  have hown : s.vm.findClass RX4 = some m.cls := hown
  refine lv_iload_n hx hb dX4_isWrite_0 rfl (lv_at hl 0 rfl) ?_
  refine lv_iconst (v := 3) hx hb dX4_isWrite_1 (by decide) ?_
  refine lv_irem hx hb dX4_isWrite_2 (by decide) ?_
  refine lv_iconst (v := 1) hx hb dX4_isWrite_3 (by decide) ?_
  refine lv_icmp_ne (tgt := 11) hx hb dX4_isWrite_4 (by decide) (fun c_4_0 => ?_) (fun c_4_0 => ?_)
  · refine lv_iconst (v := 0) hx hb dX4_isWrite_11 (by decide) ?_
    exact W.zret (ty := .boolean) (v := (0 : Int32)) hx hb hr rfl (fun t ht hW => ⟨(0 : Int32), rfl, (by unfold mX4_isWrite; rewrite [if_neg c_4_0]; (first | done | rfl)), ht⟩) (fun q h => nomatch h) dX4_isWrite_12
  · refine lv_iconst (v := 1) hx hb dX4_isWrite_7 (by decide) ?_
    refine lv_goto (tgt := 12) hx hb dX4_isWrite_8 (by decide) ?_
    exact W.zret (ty := .boolean) (v := (1 : Int32)) hx hb hr rfl (fun t ht hW => ⟨(1 : Int32), rfl, (by unfold mX4_isWrite; rewrite [if_pos c_4_0]; (first | done | rfl)), ht⟩) (fun q h => nomatch h) dX4_isWrite_12
theorem mX4_isWrite_z (p0 : Int32) : narrow .boolean (.int (mX4_isWrite p0)) = .int (mX4_isWrite p0) := by
  unfold mX4_isWrite
  repeat' split
  all_goals first | rfl | exact rfl
/-- PageRows.allows -/
def mX4_allows (p0 : Int32) (p1 : Int32) : Int32 :=
  if ((p0 >>> ((p1 - p1 / (3 : Int32) * (3 : Int32)) &&& 31)) &&& (1 : Int32)) = 0 then
    if p1 < (3 : Int32) then
      (0 : Int32)
    else
      if (p0 &&& (8 : Int32)) = 0 then
        (0 : Int32)
      else
        (0 : Int32)
  else
    if p1 < (3 : Int32) then
      (1 : Int32)
    else
      if (p0 &&& (8 : Int32)) = 0 then
        (0 : Int32)
      else
        (1 : Int32)
set_option maxHeartbeats 4000000 in
set_option maxRecDepth 100000 in
theorem c_X4_allows (l : Launch) (p0 : Int32) (p1 : Int32) : Met l yX4_allows (wX4_allows :: AW) ({ frames := 0, cells := 0, slots := 0, locals := 0 }) (va_Pc [.int p0, .int p1] (fun _ => True)) (vp_Si (fun r => r = mX4_allows p0 p1)) 0 0 (fun _ => False) := by
  refine cx_of (cc := cX4_allows) (maxL := 4) (ret := some .boolean) (by decide) rfl (Nat.le_of_ble_eq_true rfl) ?_
  intro p e s m below meth c ls hx hb hr hts hown hlocks hml hnm hl hB
  have hta : ∀ w ∈ AW, w.before [.int p0, .int p1].toArray s = true := fun w h => hts w (List.mem_cons_of_mem _ h)
  have hl : lv_has ls 4 [(0, .int p0), (1, .int p1)] := hl
  have hown : s.vm.findClass RX4 = some m.cls := hown
  refine lv_iload_n hx hb dX4_allows_0 rfl (lv_at hl 0 rfl) ?_
  refine lv_iload_n hx hb dX4_allows_1 rfl (lv_at hl 1 rfl) ?_
  refine lv_iconst (v := 3) hx hb dX4_allows_2 (by decide) ?_
  refine lv_irem hx hb dX4_allows_3 (by decide) ?_
  refine lv_ishr hx hb dX4_allows_4 ?_
  refine lv_iconst (v := 1) hx hb dX4_allows_5 (by decide) ?_
  refine lv_iand hx hb dX4_allows_6 ?_
  refine lv_if_eq (tgt := 14) hx hb dX4_allows_7 (by decide) (fun c_7_0 => ?_) (fun c_7_0 => ?_)
  · refine lv_iconst (v := 0) hx hb dX4_allows_14 (by decide) ?_
    refine lv_istore_n (lv' := [(2, .int (0 : Int32)), (0, .int p0), (1, .int p1)]) hx hb dX4_allows_15 rfl hl (by decide) rfl (fun ls hl => ?_)
    refine lv_iload_n hx hb dX4_allows_16 rfl (lv_at hl 2 rfl) ?_
    refine lv_iconst (v := 3) hx hb dX4_allows_17 (by decide) ?_
    refine lv_icmp_lt (tgt := 28) hx hb dX4_allows_18 (by decide) (fun c_18_1 => ?_) (fun c_18_1 => ?_)
    · refine lv_iconst (v := 1) hx hb dX4_allows_28 (by decide) ?_
      refine lv_goto (tgt := 33) hx hb dX4_allows_29 (by decide) ?_
      refine lv_istore_n (lv' := [(3, .int (1 : Int32)), (2, .int (0 : Int32)), (0, .int p0), (1, .int p1)]) hx hb dX4_allows_33 rfl hl (by decide) rfl (fun ls hl => ?_)
      refine lv_iload_n hx hb dX4_allows_34 rfl (lv_at hl 1 rfl) ?_
      refine lv_if_eq (tgt := 46) hx hb dX4_allows_35 (by decide) (fun c_35_2 => ?_) (fun c_35_2 => ?_)
      · refine lv_iconst (v := 0) hx hb dX4_allows_46 (by decide) ?_
        exact W.zret (ty := .boolean) (v := (0 : Int32)) hx hb hr rfl (fun t ht hW => ⟨(0 : Int32), rfl, (by unfold mX4_allows; rewrite [if_pos c_7_0]; rewrite [if_pos c_18_1]; (first | done | rfl)), ht⟩) (fun q h => nomatch h) dX4_allows_47
      · exact absurd (by decide) c_35_2
    · refine lv_iload_n hx hb dX4_allows_21 rfl (lv_at hl 1 rfl) ?_
      refine lv_bipush (v := 8) hx hb dX4_allows_22 (by decide) ?_
      refine lv_iand hx hb dX4_allows_24 ?_
      refine lv_if_eq (tgt := 32) hx hb dX4_allows_25 (by decide) (fun c_25_3 => ?_) (fun c_25_3 => ?_)
      · refine lv_iconst (v := 0) hx hb dX4_allows_32 (by decide) ?_
        refine lv_istore_n (lv' := [(3, .int (0 : Int32)), (2, .int (0 : Int32)), (0, .int p0), (1, .int p1)]) hx hb dX4_allows_33 rfl hl (by decide) rfl (fun ls hl => ?_)
        refine lv_iload_n hx hb dX4_allows_34 rfl (lv_at hl 1 rfl) ?_
        refine lv_if_eq (tgt := 46) hx hb dX4_allows_35 (by decide) (fun c_35_4 => ?_) (fun c_35_4 => ?_)
        · refine lv_iconst (v := 0) hx hb dX4_allows_46 (by decide) ?_
          exact W.zret (ty := .boolean) (v := (0 : Int32)) hx hb hr rfl (fun t ht hW => ⟨(0 : Int32), rfl, (by unfold mX4_allows; rewrite [if_pos c_7_0]; rewrite [if_neg c_18_1]; rewrite [if_pos c_25_3]; (first | done | rfl)), ht⟩) (fun q h => nomatch h) dX4_allows_47
        · exact absurd (by decide) c_35_4
      · refine lv_iconst (v := 1) hx hb dX4_allows_28 (by decide) ?_
        refine lv_goto (tgt := 33) hx hb dX4_allows_29 (by decide) ?_
        refine lv_istore_n (lv' := [(3, .int (1 : Int32)), (2, .int (0 : Int32)), (0, .int p0), (1, .int p1)]) hx hb dX4_allows_33 rfl hl (by decide) rfl (fun ls hl => ?_)
        refine lv_iload_n hx hb dX4_allows_34 rfl (lv_at hl 1 rfl) ?_
        refine lv_if_eq (tgt := 46) hx hb dX4_allows_35 (by decide) (fun c_35_5 => ?_) (fun c_35_5 => ?_)
        · refine lv_iconst (v := 0) hx hb dX4_allows_46 (by decide) ?_
          exact W.zret (ty := .boolean) (v := (0 : Int32)) hx hb hr rfl (fun t ht hW => ⟨(0 : Int32), rfl, (by unfold mX4_allows; rewrite [if_pos c_7_0]; rewrite [if_neg c_18_1]; rewrite [if_neg c_25_3]; (first | done | rfl)), ht⟩) (fun q h => nomatch h) dX4_allows_47
        · exact absurd (by decide) c_35_5
  · refine lv_iconst (v := 1) hx hb dX4_allows_10 (by decide) ?_
    refine lv_goto (tgt := 15) hx hb dX4_allows_11 (by decide) ?_
    refine lv_istore_n (lv' := [(2, .int (1 : Int32)), (0, .int p0), (1, .int p1)]) hx hb dX4_allows_15 rfl hl (by decide) rfl (fun ls hl => ?_)
    refine lv_iload_n hx hb dX4_allows_16 rfl (lv_at hl 2 rfl) ?_
    refine lv_iconst (v := 3) hx hb dX4_allows_17 (by decide) ?_
    refine lv_icmp_lt (tgt := 28) hx hb dX4_allows_18 (by decide) (fun c_18_6 => ?_) (fun c_18_6 => ?_)
    · refine lv_iconst (v := 1) hx hb dX4_allows_28 (by decide) ?_
      refine lv_goto (tgt := 33) hx hb dX4_allows_29 (by decide) ?_
      refine lv_istore_n (lv' := [(3, .int (1 : Int32)), (2, .int (1 : Int32)), (0, .int p0), (1, .int p1)]) hx hb dX4_allows_33 rfl hl (by decide) rfl (fun ls hl => ?_)
      refine lv_iload_n hx hb dX4_allows_34 rfl (lv_at hl 1 rfl) ?_
      refine lv_if_eq (tgt := 46) hx hb dX4_allows_35 (by decide) (fun c_35_7 => ?_) (fun c_35_7 => ?_)
      · exact absurd c_35_7 (by decide)
      · refine lv_iload_n hx hb dX4_allows_38 rfl (lv_at hl 0 rfl) ?_
        refine lv_if_eq (tgt := 46) hx hb dX4_allows_39 (by decide) (fun c_39_8 => ?_) (fun c_39_8 => ?_)
        · exact absurd c_39_8 (by decide)
        · refine lv_iconst (v := 1) hx hb dX4_allows_42 (by decide) ?_
          refine lv_goto (tgt := 47) hx hb dX4_allows_43 (by decide) ?_
          exact W.zret (ty := .boolean) (v := (1 : Int32)) hx hb hr rfl (fun t ht hW => ⟨(1 : Int32), rfl, (by unfold mX4_allows; rewrite [if_neg c_7_0]; rewrite [if_pos c_18_6]; (first | done | rfl)), ht⟩) (fun q h => nomatch h) dX4_allows_47
    · refine lv_iload_n hx hb dX4_allows_21 rfl (lv_at hl 1 rfl) ?_
      refine lv_bipush (v := 8) hx hb dX4_allows_22 (by decide) ?_
      refine lv_iand hx hb dX4_allows_24 ?_
      refine lv_if_eq (tgt := 32) hx hb dX4_allows_25 (by decide) (fun c_25_9 => ?_) (fun c_25_9 => ?_)
      · refine lv_iconst (v := 0) hx hb dX4_allows_32 (by decide) ?_
        refine lv_istore_n (lv' := [(3, .int (0 : Int32)), (2, .int (1 : Int32)), (0, .int p0), (1, .int p1)]) hx hb dX4_allows_33 rfl hl (by decide) rfl (fun ls hl => ?_)
        refine lv_iload_n hx hb dX4_allows_34 rfl (lv_at hl 1 rfl) ?_
        refine lv_if_eq (tgt := 46) hx hb dX4_allows_35 (by decide) (fun c_35_10 => ?_) (fun c_35_10 => ?_)
        · exact absurd c_35_10 (by decide)
        · refine lv_iload_n hx hb dX4_allows_38 rfl (lv_at hl 0 rfl) ?_
          refine lv_if_eq (tgt := 46) hx hb dX4_allows_39 (by decide) (fun c_39_11 => ?_) (fun c_39_11 => ?_)
          · refine lv_iconst (v := 0) hx hb dX4_allows_46 (by decide) ?_
            exact W.zret (ty := .boolean) (v := (0 : Int32)) hx hb hr rfl (fun t ht hW => ⟨(0 : Int32), rfl, (by unfold mX4_allows; rewrite [if_neg c_7_0]; rewrite [if_neg c_18_6]; rewrite [if_pos c_25_9]; (first | done | rfl)), ht⟩) (fun q h => nomatch h) dX4_allows_47
          · exact absurd (by decide) c_39_11
      · refine lv_iconst (v := 1) hx hb dX4_allows_28 (by decide) ?_
        refine lv_goto (tgt := 33) hx hb dX4_allows_29 (by decide) ?_
        refine lv_istore_n (lv' := [(3, .int (1 : Int32)), (2, .int (1 : Int32)), (0, .int p0), (1, .int p1)]) hx hb dX4_allows_33 rfl hl (by decide) rfl (fun ls hl => ?_)
        refine lv_iload_n hx hb dX4_allows_34 rfl (lv_at hl 1 rfl) ?_
        refine lv_if_eq (tgt := 46) hx hb dX4_allows_35 (by decide) (fun c_35_12 => ?_) (fun c_35_12 => ?_)
        · exact absurd c_35_12 (by decide)
        · refine lv_iload_n hx hb dX4_allows_38 rfl (lv_at hl 0 rfl) ?_
          refine lv_if_eq (tgt := 46) hx hb dX4_allows_39 (by decide) (fun c_39_13 => ?_) (fun c_39_13 => ?_)
          · exact absurd c_39_13 (by decide)
          · refine lv_iconst (v := 1) hx hb dX4_allows_42 (by decide) ?_
            refine lv_goto (tgt := 47) hx hb dX4_allows_43 (by decide) ?_
            exact W.zret (ty := .boolean) (v := (1 : Int32)) hx hb hr rfl (fun t ht hW => ⟨(1 : Int32), rfl, (by unfold mX4_allows; rewrite [if_neg c_7_0]; rewrite [if_neg c_18_6]; rewrite [if_neg c_25_9]; (first | done | rfl)), ht⟩) (fun q h => nomatch h) dX4_allows_47
theorem mX4_allows_z (p0 : Int32) (p1 : Int32) : narrow .boolean (.int (mX4_allows p0 p1)) = .int (mX4_allows p0 p1) := by
  unfold mX4_allows
  repeat' split
  all_goals first | rfl | exact rfl
end
section
/-- PageRows$Memory.homeOf -/
def mX2_homeOf (f8 : Int32) (ho : Nat → Int32) (p0 : Int32) : Int32 :=
  if f8 = 0 then
    p0
  else
    if p0 < 0 then
      (-1 : Int32)
    else
      if (256 : Int32) ≤ p0 then
        (-1 : Int32)
      else
        ho p0.toNatClampNeg
set_option maxHeartbeats 4000000 in
set_option maxRecDepth 100000 in
theorem c_X2_homeOf (l : Launch) (dC : Nat → ClassId) (dI : Nat → Nat → Nat) (a : Nat → Nat) (k : Nat → ClassId) (LP : List Nat) (N : Nat) (L : Nat) (f1 f2 f3 f4 f5 f6 f7 f8 : Int32) (rd : Nat) (f10 f11 f12 : Int32) (n : Nat) (f14 : Int32) (lf : Int64) (wd : Nat → Int64) (ho ro pa : Nat → Int32) (rs : Nat → Option Nat) (E : Nat → Nat → Int32)  (p0 : Int32)  : Met l yX2_homeOf (wX2_homeOf :: AW) ({ frames := 0, cells := 0, slots := 0, locals := 0 }) (va_Pc [.ref (a 1), .int p0] (CPre dC dI (CWl a k LP N L f1 f2 f3 f4 f5 f6 f7 f8 rd f10 f11 f12 n f14 lf wd ho ro pa rs E) [(k 0, .long), (k 1, .int), (k 2, .int), (k 3, .object "PageRows$Entry"), (k 4, .int)])) (vp_Si (fun r => r = mX2_homeOf f8 ho p0)) 0 0 (fun _ => False) := by
  refine cx_of (cc := cX2_homeOf) (maxL := 2) (ret := some .int) (by decide) rfl (Nat.le_of_ble_eq_true rfl) ?_
  intro p e s m below meth c ls hx hb hr hts hown hlocks hml hnm hl hB
  have hta : ∀ w ∈ AW, w.before [.ref (a 1), .int p0].toArray s = true := fun w h => hts w (List.mem_cons_of_mem _ h)
  have hl : lv_has ls 2 [(0, .ref (a 1)), (1, .int p0)] := hl
  have hown : s.vm.findClass RX2 = some m.cls := hown
  obtain ⟨hP, hK, hN⟩ := hB
  refine lv_aload_n hx hb dX2_homeOf_0 rfl (lv_at hl 0 rfl) ?_
  refine va_get (D := (dC, dI)) (ci := 2) (v := .int f8) (C := RX2) (T := TX2) (N := 3) hx hb hta inA_X2 hown hK hP 1 rfl rfl 2 (by decide) (hta _ aw_68) (fun _ h9 => h9) rfl dX2_homeOf_1 ?_
  refine lv_if_ne (tgt := 9) hx hb dX2_homeOf_4 (by decide) (fun c_4_0 => ?_) (fun c_4_0 => ?_)
  · refine lv_iload_n hx hb dX2_homeOf_9 rfl (lv_at hl 1 rfl) ?_
    refine lv_if_lt (tgt := 29) hx hb dX2_homeOf_10 (by decide) (fun c_10_1 => ?_) (fun c_10_1 => ?_)
    · refine lv_iconst (v := (-1)) hx hb dX2_homeOf_29 (by decide) ?_
      exact W.iret (v := (-1 : Int32)) hx hb hr (fun t ht hW => ⟨(-1 : Int32), rfl, (by unfold mX2_homeOf; rewrite [if_neg c_4_0]; rewrite [if_pos c_10_1]; (first | done | rfl)), ht⟩) (fun q h => nomatch h) dX2_homeOf_30
    · refine lv_iload_n hx hb dX2_homeOf_13 rfl (lv_at hl 1 rfl) ?_
      refine lv_sipush (v := 256) hx hb dX2_homeOf_14 (by decide) ?_
      refine lv_icmp_ge (tgt := 29) hx hb dX2_homeOf_17 (by decide) (fun c_17_2 => ?_) (fun c_17_2 => ?_)
      · refine lv_iconst (v := (-1)) hx hb dX2_homeOf_29 (by decide) ?_
        exact W.iret (v := (-1 : Int32)) hx hb hr (fun t ht hW => ⟨(-1 : Int32), rfl, (by unfold mX2_homeOf; rewrite [if_neg c_4_0]; rewrite [if_neg c_10_1]; rewrite [if_pos c_17_2]; (first | done | rfl)), ht⟩) (fun q h => nomatch h) dX2_homeOf_30
      · refine lv_aload_n hx hb dX2_homeOf_20 rfl (lv_at hl 0 rfl) ?_
        refine va_get (D := (dC, dI)) (ci := 2) (v := .ref (a 3)) (C := RX2) (T := TX2) (N := 3) hx hb hta inA_X2 hown hK hP 1 rfl rfl 1 (by decide) (hta _ aw_66) (fun _ h9 => h9) rfl dX2_homeOf_21 ?_
        refine lv_iload_n hx hb dX2_homeOf_24 rfl (lv_at hl 1 rfl) ?_
        refine va_iald hx hb hK hP 3 1 rfl rfl (cx_in c_10_1 c_17_2 rfl) dX2_homeOf_25 ?_
        refine lv_goto (tgt := 30) hx hb dX2_homeOf_26 (by decide) ?_
        exact W.iret (v := ho p0.toNatClampNeg) hx hb hr (fun t ht hW => ⟨ho p0.toNatClampNeg, rfl, (by unfold mX2_homeOf; rewrite [if_neg c_4_0]; rewrite [if_neg c_10_1]; rewrite [if_neg c_17_2]; (first | done | rfl)), ht⟩) (fun q h => nomatch h) dX2_homeOf_30
  · refine lv_iload_n hx hb dX2_homeOf_7 rfl (lv_at hl 1 rfl) ?_
    exact W.iret (v := p0) hx hb hr (fun t ht hW => ⟨p0, rfl, (by unfold mX2_homeOf; rewrite [if_pos c_4_0]; (first | done | rfl)), ht⟩) (fun q h => nomatch h) dX2_homeOf_8
/-- PageRows$Memory.reach -/
def mX2_reach (f8 : Int32) (ho : Nat → Int32) (p0 : Int32) (p1 : Int32) (p2 : Int32) : Int32 :=
  if (mX2_homeOf f8 ho (p0 + ((p2 &&& (((1 : Int32) <<< ((mX4_bitsBelow p1) &&& 31)) - (1 : Int32))) >>> ((8 : Int32) &&& 31)))) = (-1 : Int32) then
    (-1 : Int32)
  else
    ((mX2_homeOf f8 ho (p0 + ((p2 &&& (((1 : Int32) <<< ((mX4_bitsBelow p1) &&& 31)) - (1 : Int32))) >>> ((8 : Int32) &&& 31)))) <<< ((8 : Int32) &&& 31)) + (p2 &&& (255 : Int32))
set_option maxHeartbeats 4000000 in
set_option maxRecDepth 100000 in
theorem c_X2_reach (l : Launch) (dC : Nat → ClassId) (dI : Nat → Nat → Nat) (a : Nat → Nat) (k : Nat → ClassId) (LP : List Nat) (N : Nat) (L : Nat) (f1 f2 f3 f4 f5 f6 f7 f8 : Int32) (rd : Nat) (f10 f11 f12 : Int32) (n : Nat) (f14 : Int32) (lf : Int64) (wd : Nat → Int64) (ho ro pa : Nat → Int32) (rs : Nat → Option Nat) (E : Nat → Nat → Int32)  (p0 : Int32) (p1 : Int32) (p2 : Int32)  : Met l yX2_reach (wX2_reach :: AW) ({ frames := 1, cells := 0, slots := 0, locals := 21 }) (va_Pc [.ref (a 1), .int p0, .int p1, .int p2] (CPre dC dI (CWl a k LP N L f1 f2 f3 f4 f5 f6 f7 f8 rd f10 f11 f12 n f14 lf wd ho ro pa rs E) [(k 0, .long), (k 1, .int), (k 2, .int), (k 3, .object "PageRows$Entry"), (k 4, .int)])) (vp_Si (fun r => r = mX2_reach f8 ho p0 p1 p2)) 0 0 (fun _ => False) := by
  refine cx_of (cc := cX2_reach) (maxL := 6) (ret := some .int) (by decide) rfl (Nat.le_of_ble_eq_true rfl) ?_
  intro p e s m below meth c ls hx hb hr hts hown hlocks hml hnm hl hB
  have hta : ∀ w ∈ AW, w.before [.ref (a 1), .int p0, .int p1, .int p2].toArray s = true := fun w h => hts w (List.mem_cons_of_mem _ h)
  have hl : lv_has ls 6 [(0, .ref (a 1)), (1, .int p0), (2, .int p1), (3, .int p2)] := hl
  have hown : s.vm.findClass RX2 = some m.cls := hown
  obtain ⟨hP, hK, hN⟩ := hB
  refine lv_iload_n hx hb dX2_reach_0 rfl (lv_at hl 3 rfl) ?_
  refine lv_iconst (v := 1) hx hb dX2_reach_1 (by decide) ?_
  refine lv_iload_n hx hb dX2_reach_2 rfl (lv_at hl 2 rfl) ?_
  refine cx_callSi (va_runSN (As := [.int p1]) (rest := [.int (1 : Int32), .int p2]) ⟨hx, hb, hml, hown, hta⟩ (c_X4_bitsBelow l p1) ⟨va_cnB 1 hta (gC aw_372) rfl rfl rfl (hN.nm 14 rfl) (hta _ aw_38) (by decide +kernel) ⟨Nat.le_of_ble_eq_true rfl, Nat.le_of_ble_eq_true rfl⟩, (hta _ aw_371), trivial⟩ cx_pre0 rfl rfl hl.1 rfl (lv_room (Nat.le_of_ble_eq_true rfl)) dX2_reach_3 ⟨Nat.le_of_ble_eq_true rfl, Nat.le_of_ble_eq_true rfl⟩) (fun r hw_1 => ?_)
  subst hw_1
  refine lv_ishl hx hb dX2_reach_6 ?_
  refine lv_iconst (v := 1) hx hb dX2_reach_7 (by decide) ?_
  refine lv_isub hx hb dX2_reach_8 ?_
  refine lv_iand hx hb dX2_reach_9 ?_
  refine lv_bipush (v := 8) hx hb dX2_reach_10 (by decide) ?_
  refine lv_ishr hx hb dX2_reach_12 ?_
  refine lv_istore (lv' := [(4, .int ((p2 &&& (((1 : Int32) <<< ((mX4_bitsBelow p1) &&& 31)) - (1 : Int32))) >>> ((8 : Int32) &&& 31))), (0, .ref (a 1)), (1, .int p0), (2, .int p1), (3, .int p2)]) hx hb dX2_reach_13 hl (by decide) rfl (fun ls hl => ?_)
  refine lv_aload_n hx hb dX2_reach_15 rfl (lv_at hl 1 rfl) ?_
  refine lv_iload_n hx hb dX2_reach_16 rfl (lv_at hl 2 rfl) ?_
  refine lv_iload hx hb dX2_reach_17 (lv_at hl 0 rfl) ?_
  refine lv_iadd hx hb dX2_reach_19 ?_
  refine cx_callSi (va_runV (As := [.int (p0 + ((p2 &&& (((1 : Int32) <<< ((mX4_bitsBelow p1) &&& 31)) - (1 : Int32))) >>> ((8 : Int32) &&& 31)))]) (rest := []) ⟨hx, hb, hml, hown, hta⟩ (c_X2_homeOf l dC dI a k LP N L f1 f2 f3 f4 f5 f6 f7 f8 rd f10 f11 f12 n f14 lf wd ho ro pa rs E (p0 + ((p2 &&& (((1 : Int32) <<< ((mX4_bitsBelow p1) &&& 31)) - (1 : Int32))) >>> ((8 : Int32) &&& 31)))) (cwV 1 hta (gV aw_425 aw_405 aw_8 aw_39 aw_406) rfl rfl rfl (by decide +kernel) ⟨Nat.le_of_ble_eq_true rfl, Nat.le_of_ble_eq_true rfl⟩) (cx_preVS hK hP hN (va_recv hK hP (ci := 2) (q0 := 1) rfl rfl)) rfl rfl hl.1 rfl (lv_room (Nat.le_of_ble_eq_true rfl)) dX2_reach_20 ⟨Nat.le_of_ble_eq_true rfl, Nat.le_of_ble_eq_true rfl⟩) (fun r hw_2 => ?_)
  subst hw_2
  refine lv_istore (lv' := [(5, .int (mX2_homeOf f8 ho (p0 + ((p2 &&& (((1 : Int32) <<< ((mX4_bitsBelow p1) &&& 31)) - (1 : Int32))) >>> ((8 : Int32) &&& 31))))), (4, .int ((p2 &&& (((1 : Int32) <<< ((mX4_bitsBelow p1) &&& 31)) - (1 : Int32))) >>> ((8 : Int32) &&& 31))), (0, .ref (a 1)), (1, .int p0), (2, .int p1), (3, .int p2)]) hx hb dX2_reach_23 hl (by decide) rfl (fun ls hl => ?_)
  refine lv_iload hx hb dX2_reach_25 (lv_at hl 0 rfl) ?_
  refine lv_iconst (v := (-1)) hx hb dX2_reach_27 (by decide) ?_
  refine lv_icmp_ne (tgt := 35) hx hb dX2_reach_28 (by decide) (fun c_28_2 => ?_) (fun c_28_2 => ?_)
  · refine lv_iload hx hb dX2_reach_35 (lv_at hl 0 rfl) ?_
    refine lv_bipush (v := 8) hx hb dX2_reach_37 (by decide) ?_
    refine lv_ishl hx hb dX2_reach_39 ?_
    refine lv_iload_n hx hb dX2_reach_40 rfl (lv_at hl 5 rfl) ?_
    refine lv_sipush (v := 255) hx hb dX2_reach_41 (by decide) ?_
    refine lv_iand hx hb dX2_reach_44 ?_
    refine lv_iadd hx hb dX2_reach_45 ?_
    exact W.iret (v := ((mX2_homeOf f8 ho (p0 + ((p2 &&& (((1 : Int32) <<< ((mX4_bitsBelow p1) &&& 31)) - (1 : Int32))) >>> ((8 : Int32) &&& 31)))) <<< ((8 : Int32) &&& 31)) + (p2 &&& (255 : Int32))) hx hb hr (fun t ht hW => ⟨((mX2_homeOf f8 ho (p0 + ((p2 &&& (((1 : Int32) <<< ((mX4_bitsBelow p1) &&& 31)) - (1 : Int32))) >>> ((8 : Int32) &&& 31)))) <<< ((8 : Int32) &&& 31)) + (p2 &&& (255 : Int32)), rfl, (by unfold mX2_reach; rewrite [if_neg c_28_2]; (first | done | rfl)), ht⟩) (fun q h => nomatch h) dX2_reach_46
  · refine lv_iconst (v := (-1)) hx hb dX2_reach_31 (by decide) ?_
    refine lv_goto (tgt := 46) hx hb dX2_reach_32 (by decide) ?_
    exact W.iret (v := (-1 : Int32)) hx hb hr (fun t ht hW => ⟨(-1 : Int32), rfl, (by unfold mX2_reach; rewrite [if_pos c_28_2]; (first | done | rfl)), ht⟩) (fun q h => nomatch h) dX2_reach_46
/-- PageRows$Path.isOutside -/
def mX3_isOutside (L : Nat) (p0 : Int32) : Int32 :=
  if p0 < 0 then
    (1 : Int32)
  else
    if p0 < ((1 : Int32) <<< ((mX4_bitsBelow (nI L)) &&& 31)) then
      (0 : Int32)
    else
      (1 : Int32)
set_option maxHeartbeats 4000000 in
set_option maxRecDepth 100000 in
theorem c_X3_isOutside (l : Launch) (dC : Nat → ClassId) (dI : Nat → Nat → Nat) (a : Nat → Nat) (k : Nat → ClassId) (LP : List Nat) (N : Nat) (L : Nat) (f1 f2 f3 f4 f5 f6 f7 f8 : Int32) (rd : Nat) (f10 f11 f12 : Int32) (n : Nat) (f14 : Int32) (lf : Int64) (wd : Nat → Int64) (ho ro pa : Nat → Int32) (rs : Nat → Option Nat) (E : Nat → Nat → Int32)  (p0 : Int32)  : Met l yX3_isOutside (wX3_isOutside :: AW) ({ frames := 1, cells := 0, slots := 0, locals := 20 }) (va_Pc [.ref (a 4), .int p0] (CPre dC dI (CWl a k LP N L f1 f2 f3 f4 f5 f6 f7 f8 rd f10 f11 f12 n f14 lf wd ho ro pa rs E) [(k 0, .long), (k 1, .int), (k 2, .int), (k 3, .object "PageRows$Entry"), (k 4, .int)])) (vp_Si (fun r => r = mX3_isOutside L p0)) 0 0 (fun _ => False) := by
  refine cx_of (cc := cX3_isOutside) (maxL := 2) (ret := some .boolean) (by decide) rfl (Nat.le_of_ble_eq_true rfl) ?_
  intro p e s m below meth c ls hx hb hr hts hown hlocks hml hnm hl hB
  have hta : ∀ w ∈ AW, w.before [.ref (a 4), .int p0].toArray s = true := fun w h => hts w (List.mem_cons_of_mem _ h)
  have hl : lv_has ls 2 [(0, .ref (a 4)), (1, .int p0)] := hl
  have hown : s.vm.findClass RX3 = some m.cls := hown
  obtain ⟨hP, hK, hN⟩ := hB
  refine lv_iload_n hx hb dX3_isOutside_0 rfl (lv_at hl 1 rfl) ?_
  refine lv_if_lt (tgt := 17) hx hb dX3_isOutside_1 (by decide) (fun c_1_0 => ?_) (fun c_1_0 => ?_)
  · refine lv_iconst (v := 1) hx hb dX3_isOutside_17 (by decide) ?_
    refine lv_goto (tgt := 22) hx hb dX3_isOutside_18 (by decide) ?_
    exact W.zret (ty := .boolean) (v := (1 : Int32)) hx hb hr rfl (fun t ht hW => ⟨(1 : Int32), rfl, (by unfold mX3_isOutside; rewrite [if_pos c_1_0]; (first | done | rfl)), ht⟩) (fun q h => nomatch h) dX3_isOutside_22
  · refine lv_iload_n hx hb dX3_isOutside_4 rfl (lv_at hl 1 rfl) ?_
    refine lv_iconst (v := 1) hx hb dX3_isOutside_5 (by decide) ?_
    refine lv_aload_n hx hb dX3_isOutside_6 rfl (lv_at hl 0 rfl) ?_
    refine va_get (D := (dC, dI)) (ci := 3) (v := .int (nI L)) (C := RX3) (T := TX3) (N := 8) hx hb hta inA_X3 hown hK hP 4 rfl rfl 1 (by decide) (hta _ aw_86) (fun _ h9 => h9) rfl dX3_isOutside_7 ?_
    refine cx_callSi (va_runSN (As := [.int (nI L)]) (rest := [.int (1 : Int32), .int p0]) ⟨hx, hb, hml, hown, hta⟩ (c_X4_bitsBelow l (nI L)) ⟨va_cnB 1 hta (gC aw_372) rfl rfl rfl (hN.nm 8 rfl) (hta _ aw_38) (by decide +kernel) ⟨Nat.le_of_ble_eq_true rfl, Nat.le_of_ble_eq_true rfl⟩, (hta _ aw_371), trivial⟩ cx_pre0 rfl rfl hl.1 rfl (lv_room (Nat.le_of_ble_eq_true rfl)) dX3_isOutside_10 ⟨Nat.le_of_ble_eq_true rfl, Nat.le_of_ble_eq_true rfl⟩) (fun r hw_2 => ?_)
    subst hw_2
    refine lv_ishl hx hb dX3_isOutside_13 ?_
    refine lv_icmp_lt (tgt := 21) hx hb dX3_isOutside_14 (by decide) (fun c_14_2 => ?_) (fun c_14_2 => ?_)
    · refine lv_iconst (v := 0) hx hb dX3_isOutside_21 (by decide) ?_
      exact W.zret (ty := .boolean) (v := (0 : Int32)) hx hb hr rfl (fun t ht hW => ⟨(0 : Int32), rfl, (by unfold mX3_isOutside; rewrite [if_neg c_1_0]; rewrite [if_pos c_14_2]; (first | done | rfl)), ht⟩) (fun q h => nomatch h) dX3_isOutside_22
    · refine lv_iconst (v := 1) hx hb dX3_isOutside_17 (by decide) ?_
      refine lv_goto (tgt := 22) hx hb dX3_isOutside_18 (by decide) ?_
      exact W.zret (ty := .boolean) (v := (1 : Int32)) hx hb hr rfl (fun t ht hW => ⟨(1 : Int32), rfl, (by unfold mX3_isOutside; rewrite [if_neg c_1_0]; rewrite [if_neg c_14_2]; (first | done | rfl)), ht⟩) (fun q h => nomatch h) dX3_isOutside_22
theorem mX3_isOutside_z (L : Nat) (p0 : Int32) : narrow .boolean (.int (mX3_isOutside L p0)) = .int (mX3_isOutside L p0) := by
  unfold mX3_isOutside
  repeat' split
  all_goals first | rfl | exact rfl
/-- PageRows$Path.leafFault -/
def mX3_leafFault (f10 : Int32) (lf : Int64) (p0 : Int32) : Int32 :=
  if ((mX4_frameOf lf) &&& (((1 : Int32) <<< (((4 : Int32) * f10) &&& 31)) - (1 : Int32))) = 0 then
    if (mX4_allows (mX4_rightsOf lf) p0) = 0 then
      (3 : Int32)
    else
      (0 : Int32)
  else
    (4 : Int32)
set_option maxHeartbeats 4000000 in
set_option maxRecDepth 100000 in
theorem c_X3_leafFault (l : Launch) (dC : Nat → ClassId) (dI : Nat → Nat → Nat) (a : Nat → Nat) (k : Nat → ClassId) (LP : List Nat) (N : Nat) (L : Nat) (f1 f2 f3 f4 f5 f6 f7 f8 : Int32) (rd : Nat) (f10 f11 f12 : Int32) (n : Nat) (f14 : Int32) (lf : Int64) (wd : Nat → Int64) (ho ro pa : Nat → Int32) (rs : Nat → Option Nat) (E : Nat → Nat → Int32)  (p0 : Int32)  : Met l yX3_leafFault (wX3_leafFault :: AW) ({ frames := 1, cells := 0, slots := 0, locals := 23 }) (va_Pc [.ref (a 4), .int p0] (CPre dC dI (CWl a k LP N L f1 f2 f3 f4 f5 f6 f7 f8 rd f10 f11 f12 n f14 lf wd ho ro pa rs E) [(k 0, .long), (k 1, .int), (k 2, .int), (k 3, .object "PageRows$Entry"), (k 4, .int)])) (vp_Si (fun r => r = mX3_leafFault f10 lf p0)) 0 0 (fun _ => False) := by
  refine cx_of (cc := cX3_leafFault) (maxL := 3) (ret := some .int) (by decide) rfl (Nat.le_of_ble_eq_true rfl) ?_
  intro p e s m below meth c ls hx hb hr hts hown hlocks hml hnm hl hB
  have hta : ∀ w ∈ AW, w.before [.ref (a 4), .int p0].toArray s = true := fun w h => hts w (List.mem_cons_of_mem _ h)
  have hl : lv_has ls 3 [(0, .ref (a 4)), (1, .int p0)] := hl
  have hown : s.vm.findClass RX3 = some m.cls := hown
  obtain ⟨hP, hK, hN⟩ := hB
  refine lv_iconst (v := 1) hx hb dX3_leafFault_0 (by decide) ?_
  refine lv_iconst (v := 4) hx hb dX3_leafFault_1 (by decide) ?_
  refine lv_aload_n hx hb dX3_leafFault_2 rfl (lv_at hl 0 rfl) ?_
  refine va_get (D := (dC, dI)) (ci := 3) (v := .int f10) (C := RX3) (T := TX3) (N := 8) hx hb hta inA_X3 hown hK hP 4 rfl rfl 5 (by decide) (hta _ aw_92) (fun _ h9 => h9) rfl dX3_leafFault_3 ?_
  refine lv_imul hx hb dX3_leafFault_6 ?_
  refine lv_ishl hx hb dX3_leafFault_7 ?_
  refine lv_iconst (v := 1) hx hb dX3_leafFault_8 (by decide) ?_
  refine lv_isub hx hb dX3_leafFault_9 ?_
  refine lv_istore_n (lv' := [(2, .int (((1 : Int32) <<< (((4 : Int32) * f10) &&& 31)) - (1 : Int32))), (0, .ref (a 4)), (1, .int p0)]) hx hb dX3_leafFault_10 rfl hl (by decide) rfl (fun ls hl => ?_)
  refine lv_aload_n hx hb dX3_leafFault_11 rfl (lv_at hl 1 rfl) ?_
  refine va_get (D := (dC, dI)) (ci := 3) (v := .long lf) (C := RX3) (T := TX3) (N := 8) hx hb hta inA_X3 hown hK hP 4 rfl rfl 4 (by decide) (hta _ aw_90) (fun _ h9 => h9) rfl dX3_leafFault_12 ?_
  refine cx_callSi (va_runSN (As := [.long lf]) (rest := []) ⟨hx, hb, hml, hown, hta⟩ (c_X4_frameOf l lf) ⟨va_cnB 1 hta (gC aw_409) rfl rfl rfl (hN.nm 10 rfl) (hta _ aw_38) (by decide +kernel) ⟨Nat.le_of_ble_eq_true rfl, Nat.le_of_ble_eq_true rfl⟩, (hta _ aw_408), trivial⟩ cx_pre0 rfl rfl hl.1 rfl (lv_room (Nat.le_of_ble_eq_true rfl)) dX3_leafFault_15 ⟨Nat.le_of_ble_eq_true rfl, Nat.le_of_ble_eq_true rfl⟩) (fun r hw_1 => ?_)
  subst hw_1
  refine lv_iload_n hx hb dX3_leafFault_18 rfl (lv_at hl 0 rfl) ?_
  refine lv_iand hx hb dX3_leafFault_19 ?_
  refine lv_if_eq (tgt := 25) hx hb dX3_leafFault_20 (by decide) (fun c_20_1 => ?_) (fun c_20_1 => ?_)
  · refine lv_aload_n hx hb dX3_leafFault_25 rfl (lv_at hl 1 rfl) ?_
    refine va_get (D := (dC, dI)) (ci := 3) (v := .long lf) (C := RX3) (T := TX3) (N := 8) hx hb hta inA_X3 hown hK hP 4 rfl rfl 4 (by decide) (hta _ aw_90) (fun _ h9 => h9) rfl dX3_leafFault_26 ?_
    refine cx_callSi (va_runSN (As := [.long lf]) (rest := []) ⟨hx, hb, hml, hown, hta⟩ (c_X4_rightsOf l lf) ⟨va_cnB 1 hta (gC aw_418) rfl rfl rfl (hN.nm 11 rfl) (hta _ aw_38) (by decide +kernel) ⟨Nat.le_of_ble_eq_true rfl, Nat.le_of_ble_eq_true rfl⟩, (hta _ aw_417), trivial⟩ cx_pre0 rfl rfl hl.1 rfl (lv_room (Nat.le_of_ble_eq_true rfl)) dX3_leafFault_29 ⟨Nat.le_of_ble_eq_true rfl, Nat.le_of_ble_eq_true rfl⟩) (fun r hw_3 => ?_)
    subst hw_3
    refine lv_iload_n hx hb dX3_leafFault_32 rfl (lv_at hl 2 rfl) ?_
    refine cx_callSi (va_runSN (As := [.int (mX4_rightsOf lf), .int p0]) (rest := []) ⟨hx, hb, hml, hown, hta⟩ (c_X4_allows l (mX4_rightsOf lf) p0) ⟨va_cnB 2 hta (gC aw_381) rfl rfl rfl (hN.nm 12 rfl) (hta _ aw_38) (by decide +kernel) ⟨Nat.le_of_ble_eq_true rfl, Nat.le_of_ble_eq_true rfl⟩, (hta _ aw_380), trivial⟩ cx_pre0 rfl rfl hl.1 rfl (lv_room (Nat.le_of_ble_eq_true rfl)) dX3_leafFault_33 ⟨Nat.le_of_ble_eq_true rfl, Nat.le_of_ble_eq_true rfl⟩) (fun r hw_4 => ?_)
    subst hw_4
    refine lv_if_eq (tgt := 43) hx hb dX3_leafFault_36 (by decide) (fun c_36_4 => ?_) (fun c_36_4 => ?_)
    · refine lv_iconst (v := 3) hx hb dX3_leafFault_43 (by decide) ?_
      exact W.iret (v := (3 : Int32)) hx hb hr (fun t ht hW => ⟨(3 : Int32), rfl, (by unfold mX3_leafFault; rewrite [if_pos c_20_1]; rewrite [if_pos c_36_4]; (first | done | rfl)), ht⟩) (fun q h => nomatch h) dX3_leafFault_44
    · refine lv_iconst (v := 0) hx hb dX3_leafFault_39 (by decide) ?_
      refine lv_goto (tgt := 44) hx hb dX3_leafFault_40 (by decide) ?_
      exact W.iret (v := (0 : Int32)) hx hb hr (fun t ht hW => ⟨(0 : Int32), rfl, (by unfold mX3_leafFault; rewrite [if_pos c_20_1]; rewrite [if_neg c_36_4]; (first | done | rfl)), ht⟩) (fun q h => nomatch h) dX3_leafFault_44
  · refine lv_iconst (v := 4) hx hb dX3_leafFault_23 (by decide) ?_
    exact W.iret (v := (4 : Int32)) hx hb hr (fun t ht hW => ⟨(4 : Int32), rfl, (by unfold mX3_leafFault; rewrite [if_neg c_20_1]; (first | done | rfl)), ht⟩) (fun q h => nomatch h) dX3_leafFault_24
/-- PageRows$Path.stop -/
def mX3_stop (p0 : Int32) (p1 : Int32) : Int32 × Int32 :=
  (p0, p1)
set_option maxHeartbeats 4000000 in
set_option maxRecDepth 100000 in
theorem c_X3_stop (l : Launch) (dC : Nat → ClassId) (dI : Nat → Nat → Nat) (a : Nat → Nat) (k : Nat → ClassId) (LP : List Nat) (N : Nat) (L : Nat) (f1 f2 f3 f4 f5 f6 f7 f8 : Int32) (rd : Nat) (f10 f11 f12 : Int32) (n : Nat) (f14 : Int32) (lf : Int64) (wd : Nat → Int64) (ho ro pa : Nat → Int32) (rs : Nat → Option Nat) (E : Nat → Nat → Int32)  (sz : Nat) (p0 : Int32) (p1 : Int32)  : Met l yX3_stop (wX3_stop :: AW) ({ frames := 0, cells := 0, slots := 0, locals := 0 }) (va_Pc [.ref (a 4), .int p0, .int p1] (CPrQ dC dI (CWl a k LP N L f1 f2 f3 f4 f5 f6 f7 f8 rd f10 f11 f12 n f14 lf wd ho ro pa rs E) [(k 0, .long), (k 1, .int), (k 2, .int), (k 3, .object "PageRows$Entry"), (k 4, .int)] sz)) (va_Qi (fun (r : Int32) (u : Int32) => (r, u) = mX3_stop p0 p1) (fun (u : Int32) (t : State) => match u with | f11' => va_P (dC, dI) vwCl (CWl a k LP N L f1 f2 f3 f4 f5 f6 f7 f8 rd f10 f11' f12 n f14 lf wd ho ro pa rs E) t.heap ∧ va_K (dC, dI) vwCl [(k 0, .long), (k 1, .int), (k 2, .int), (k 3, .object "PageRows$Entry"), (k 4, .int)] t ∧ va_D (va_A (CWl a k LP N L f1 f2 f3 f4 f5 f6 f7 f8 rd f10 f11 f12 n f14 lf wd ho ro pa rs E) sz) (CWl a k LP N L f1 f2 f3 f4 f5 f6 f7 f8 rd f10 f11' f12 n f14 lf wd ho ro pa rs E)) (va_A (CWl a k LP N L f1 f2 f3 f4 f5 f6 f7 f8 rd f10 f11 f12 n f14 lf wd ho ro pa rs E) sz)) 0 0 (va_A (CWl a k LP N L f1 f2 f3 f4 f5 f6 f7 f8 rd f10 f11 f12 n f14 lf wd ho ro pa rs E) sz) := by
  refine cx_of (cc := cX3_stop) (maxL := 3) (ret := some .int) (by decide) rfl (Nat.le_of_ble_eq_true rfl) ?_
  intro p e s m below meth c ls hx hb hr hts hown hlocks hml hnm hl hB
  have hta : ∀ w ∈ AW, w.before [.ref (a 4), .int p0, .int p1].toArray s = true := fun w h => hts w (List.mem_cons_of_mem _ h)
  have hl : lv_has ls 3 [(0, .ref (a 4)), (1, .int p0), (2, .int p1)] := hl
  have hown : s.vm.findClass RX3 = some m.cls := hown
  obtain ⟨rfl, ⟨hP, hK, hN⟩, hD0⟩ := hB
  have hD := hD0.self (sz := s.heap.size)
  generalize hAe : va_A (CWl a k LP N L f1 f2 f3 f4 f5 f6 f7 f8 rd f10 f11 f12 n f14 lf wd ho ro pa rs E) s.heap.size = A at hD ⊢
  have hA : ∀ q : Nat, s.heap.size ≤ q → A q := fun q h => by rw [← hAe]; exact Or.inr h
  have hS : va_S A s.heap s.heap [] := va_S.rf
  refine lv_aload_n hx hb dX3_stop_0 rfl (lv_at hl 0 rfl) ?_
  refine lv_iload_n hx hb dX3_stop_1 rfl (lv_at hl 2 rfl) ?_
  refine va_put (D := (dC, dI)) (ci := 3) (v := .int p1) (ty := .int) (C := RX3) (T := TX3) (N := 8) hx hb hta inA_X3 tyX3 tyX3_ok nmX3 hown hK hP hD hS 4 rfl rfl 6 (by decide) (hta _ aw_94) (fun _ h9 => h9) rfl (by decide +kernel) rfl rfl (Nat.le_of_ble_eq_true rfl) dX3_stop_2 (fun H locs hP hD hS => ?_)
  have hP : va_P (dC, dI) vwCl (CWl a k LP N L f1 f2 f3 f4 f5 f6 f7 f8 rd f10 p1 f12 n f14 lf wd ho ro pa rs E) H := hP
  have hD : va_D A (CWl a k LP N L f1 f2 f3 f4 f5 f6 f7 f8 rd f10 p1 f12 n f14 lf wd ho ro pa rs E) := hD
  refine lv_iload_n hx hb dX3_stop_5 rfl (lv_at hl 1 rfl) ?_
  exact W.iret (v := p0) hx hb hr (fun t ht hW => ⟨⟨p0, p1, rfl, (by unfold mX3_stop; (first | done | rfl)), by rw [ht]; exact hP, va_K.moved hW.alike hK, hD⟩, hS.F ht⟩) hS.2.2 dX3_stop_6
/-- PageRows$Path.read -/
def mX3_read (f8 : Int32) (rd : Nat) (lf : Int64) (wd : Nat → Int64) (ho : Nat → Int32) (pa : Nat → Int32) (p0 : Int32) (p1 : Int32) : Int32 × Nat × Int64 × (Nat → Int32) :=
  if (mX2_homeOf f8 ho p0) = (-1 : Int32) then
    ((6 : Int32), rd, lf, pa)
  else
    if (mX2_homeOf f8 ho p0) < (256 : Int32) then
      if (lg_cmp ((wd (((mX2_homeOf f8 ho p0) * (16 : Int32)) + (p1 &&& (15 : Int32))).toNatClampNeg) &&& (1 : Int64)) (0 : Int64)) = 0 then
        ((2 : Int32), (rd + 1), wd (((mX2_homeOf f8 ho p0) * (16 : Int32)) + (p1 &&& (15 : Int32))).toNatClampNeg, upd pa rd (((mX2_homeOf f8 ho p0) * (16 : Int32)) + (p1 &&& (15 : Int32))))
      else
        ((0 : Int32), (rd + 1), wd (((mX2_homeOf f8 ho p0) * (16 : Int32)) + (p1 &&& (15 : Int32))).toNatClampNeg, upd pa rd (((mX2_homeOf f8 ho p0) * (16 : Int32)) + (p1 &&& (15 : Int32))))
    else
      ((5 : Int32), rd, lf, pa)
set_option maxHeartbeats 4000000 in
set_option maxRecDepth 100000 in
theorem c_X3_read (l : Launch) (dC : Nat → ClassId) (dI : Nat → Nat → Nat) (a : Nat → Nat) (k : Nat → ClassId) (LP : List Nat) (N : Nat) (L : Nat) (f1 f2 f3 f4 f5 f6 f7 f8 : Int32) (rd : Nat) (f10 f11 f12 : Int32) (n : Nat) (f14 : Int32) (lf : Int64) (wd : Nat → Int64) (ho ro pa : Nat → Int32) (rs : Nat → Option Nat) (E : Nat → Nat → Int32)  (sz : Nat) (p0 : Int32) (p1 : Int32) (h0 : ¬ mX2_homeOf f8 ho p0 = (-1 : Int32) → ¬ mX2_homeOf f8 ho p0 < 0) (hrd : rd < 4) : Met l yX3_read (wX3_read :: AW) ({ frames := 1, cells := 0, slots := 0, locals := 21 }) (va_Pc [.ref (a 4), .int p0, .int p1] (CPrQ dC dI (CWl a k LP N L f1 f2 f3 f4 f5 f6 f7 f8 rd f10 f11 f12 n f14 lf wd ho ro pa rs E) [(k 0, .long), (k 1, .int), (k 2, .int), (k 3, .object "PageRows$Entry"), (k 4, .int)] sz)) (va_Qi (fun (r : Int32) (u : Nat × Int64 × (Nat → Int32)) => (r, u) = mX3_read f8 rd lf wd ho pa p0 p1) (fun (u : Nat × Int64 × (Nat → Int32)) (t : State) => match u with | (rd', lf', pa') => va_P (dC, dI) vwCl (CWl a k LP N L f1 f2 f3 f4 f5 f6 f7 f8 rd' f10 f11 f12 n f14 lf' wd ho ro pa' rs E) t.heap ∧ va_K (dC, dI) vwCl [(k 0, .long), (k 1, .int), (k 2, .int), (k 3, .object "PageRows$Entry"), (k 4, .int)] t ∧ va_D (va_A (CWl a k LP N L f1 f2 f3 f4 f5 f6 f7 f8 rd f10 f11 f12 n f14 lf wd ho ro pa rs E) sz) (CWl a k LP N L f1 f2 f3 f4 f5 f6 f7 f8 rd' f10 f11 f12 n f14 lf' wd ho ro pa' rs E)) (va_A (CWl a k LP N L f1 f2 f3 f4 f5 f6 f7 f8 rd f10 f11 f12 n f14 lf wd ho ro pa rs E) sz)) 0 0 (va_A (CWl a k LP N L f1 f2 f3 f4 f5 f6 f7 f8 rd f10 f11 f12 n f14 lf wd ho ro pa rs E) sz) := by
  refine cx_of (cc := cX3_read) (maxL := 5) (ret := some .int) (by decide) rfl (Nat.le_of_ble_eq_true rfl) ?_
  intro p e s m below meth c ls hx hb hr hts hown hlocks hml hnm hl hB
  have hta : ∀ w ∈ AW, w.before [.ref (a 4), .int p0, .int p1].toArray s = true := fun w h => hts w (List.mem_cons_of_mem _ h)
  have hl : lv_has ls 5 [(0, .ref (a 4)), (1, .int p0), (2, .int p1)] := hl
  have hown : s.vm.findClass RX3 = some m.cls := hown
  obtain ⟨rfl, ⟨hP, hK, hN⟩, hD0⟩ := hB
  have hD := hD0.self (sz := s.heap.size)
  generalize hAe : va_A (CWl a k LP N L f1 f2 f3 f4 f5 f6 f7 f8 rd f10 f11 f12 n f14 lf wd ho ro pa rs E) s.heap.size = A at hD ⊢
  have hA : ∀ q : Nat, s.heap.size ≤ q → A q := fun q h => by rw [← hAe]; exact Or.inr h
  have hS : va_S A s.heap s.heap [] := va_S.rf
  refine lv_aload_n hx hb dX3_read_0 rfl (lv_at hl 0 rfl) ?_
  refine va_get (D := (dC, dI)) (ci := 3) (v := .ref (a 1)) (C := RX3) (T := TX3) (N := 8) hx hb hta inA_X3 hown hK hP 4 rfl rfl 0 (by decide) (hta _ aw_85) (fun _ h9 => h9) rfl dX3_read_1 ?_
  refine lv_iload_n hx hb dX3_read_4 rfl (lv_at hl 1 rfl) ?_
  refine cx_callSi (va_runVN (As := [.int p0]) (rest := []) ⟨hx, hb, hml, hown, hta⟩ (c_X2_homeOf l dC dI a k LP N L f1 f2 f3 f4 f5 f6 f7 f8 rd f10 f11 f12 n f14 lf wd ho ro pa rs E p0) ⟨va_cnB 1 hta (gC aw_406) rfl rfl rfl (hN.nm 9 rfl) (hta _ aw_39) (by decide +kernel) ⟨Nat.le_of_ble_eq_true rfl, Nat.le_of_ble_eq_true rfl⟩, (hta _ aw_405), (hta _ aw_8)⟩ (cx_preVS hK hP hN (va_recv hK hP (ci := 2) (q0 := 1) rfl rfl)) rfl rfl hl.1 rfl (lv_room (Nat.le_of_ble_eq_true rfl)) dX3_read_5 ⟨Nat.le_of_ble_eq_true rfl, Nat.le_of_ble_eq_true rfl⟩) (fun r hw_1 => ?_)
  subst hw_1
  refine lv_istore_n (lv' := [(3, .int (mX2_homeOf f8 ho p0)), (0, .ref (a 4)), (1, .int p0), (2, .int p1)]) hx hb dX3_read_8 rfl hl (by decide) rfl (fun ls hl => ?_)
  refine lv_iload_n hx hb dX3_read_9 rfl (lv_at hl 0 rfl) ?_
  refine lv_iconst (v := (-1)) hx hb dX3_read_10 (by decide) ?_
  refine lv_icmp_ne (tgt := 17) hx hb dX3_read_11 (by decide) (fun c_11_1 => ?_) (fun c_11_1 => ?_)
  · refine lv_iload_n hx hb dX3_read_17 rfl (lv_at hl 0 rfl) ?_
    refine lv_sipush (v := 256) hx hb dX3_read_18 (by decide) ?_
    refine lv_icmp_lt (tgt := 26) hx hb dX3_read_21 (by decide) (fun c_21_2 => ?_) (fun c_21_2 => ?_)
    · refine lv_iload_n hx hb dX3_read_26 rfl (lv_at hl 0 rfl) ?_
      refine lv_bipush (v := 16) hx hb dX3_read_27 (by decide) ?_
      refine lv_imul hx hb dX3_read_29 ?_
      refine lv_iload_n hx hb dX3_read_30 rfl (lv_at hl 3 rfl) ?_
      refine lv_bipush (v := 15) hx hb dX3_read_31 (by decide) ?_
      refine lv_iand hx hb dX3_read_33 ?_
      refine lv_iadd hx hb dX3_read_34 ?_
      refine lv_istore (lv' := [(4, .int (((mX2_homeOf f8 ho p0) * (16 : Int32)) + (p1 &&& (15 : Int32)))), (3, .int (mX2_homeOf f8 ho p0)), (0, .ref (a 4)), (1, .int p0), (2, .int p1)]) hx hb dX3_read_35 hl (by decide) rfl (fun ls hl => ?_)
      refine lv_aload_n hx hb dX3_read_37 rfl (lv_at hl 2 rfl) ?_
      refine lv_aload_n hx hb dX3_read_38 rfl (lv_at hl 2 rfl) ?_
      refine va_get (D := (dC, dI)) (ci := 3) (v := .ref (a 1)) (C := RX3) (T := TX3) (N := 8) hx hb hta inA_X3 hown hK hP 4 rfl rfl 0 (by decide) (hta _ aw_85) (fun _ h9 => h9) rfl dX3_read_39 ?_
      refine va_getN (D := (dC, dI)) (ci := 2) (v := .ref (a 2)) (C := RX2) (T := TX2) (N := 3) hx hb hta inA_X2 hown hK hP 1 rfl rfl 0 (by decide) (hN.nf 1 rfl) (fun _ h9 => h9) rfl dX3_read_42 ?_
      refine lv_iload hx hb dX3_read_45 (lv_at hl 0 rfl) ?_
      refine va_lald hx hb hK hP 2 0 rfl rfl (cx_wordin (h0 c_11_1) c_21_2) dX3_read_47 ?_
      refine va_put (D := (dC, dI)) (ci := 3) (v := .long (wd (((mX2_homeOf f8 ho p0) * (16 : Int32)) + (p1 &&& (15 : Int32))).toNatClampNeg)) (ty := .long) (C := RX3) (T := TX3) (N := 8) hx hb hta inA_X3 tyX3 tyX3_ok nmX3 hown hK hP hD hS 4 rfl rfl 4 (by decide) (hta _ aw_90) (fun _ h9 => h9) rfl (by decide +kernel) rfl rfl (Nat.le_of_ble_eq_true rfl) dX3_read_48 (fun H locs hP hD hS => ?_)
      have hP : va_P (dC, dI) vwCl (CWl a k LP N L f1 f2 f3 f4 f5 f6 f7 f8 rd f10 f11 f12 n f14 (wd (((mX2_homeOf f8 ho p0) * (16 : Int32)) + (p1 &&& (15 : Int32))).toNatClampNeg) wd ho ro pa rs E) H := hP
      have hD : va_D A (CWl a k LP N L f1 f2 f3 f4 f5 f6 f7 f8 rd f10 f11 f12 n f14 (wd (((mX2_homeOf f8 ho p0) * (16 : Int32)) + (p1 &&& (15 : Int32))).toNatClampNeg) wd ho ro pa rs E) := hD
      refine lv_aload_n hx hb dX3_read_51 rfl (lv_at hl 2 rfl) ?_
      refine va_get (D := (dC, dI)) (ci := 3) (v := .ref (a 5)) (C := RX3) (T := TX3) (N := 8) hx hb hta inA_X3 hown hK hP 4 rfl rfl 2 (by decide) (hta _ aw_87) (fun _ h9 => h9) rfl dX3_read_52 ?_
      refine lv_aload_n hx hb dX3_read_55 rfl (lv_at hl 2 rfl) ?_
      refine va_get (D := (dC, dI)) (ci := 3) (v := .int (nI rd)) (C := RX3) (T := TX3) (N := 8) hx hb hta inA_X3 hown hK hP 4 rfl rfl 3 (by decide) (hta _ aw_88) (fun _ h9 => h9) rfl dX3_read_56 ?_
      refine lv_iload hx hb dX3_read_59 (lv_at hl 0 rfl) ?_
      refine va_iast hx hb hK hP hD hS 5 2 rfl rfl (vp_in_nI hrd (by decide)) dX3_read_61 (fun H locs hP hD hS => ?_)
      rw [nI_clamp (show rd < 2 ^ 31 by omega)] at hP hD
      have hP : va_P (dC, dI) vwCl (CWl a k LP N L f1 f2 f3 f4 f5 f6 f7 f8 rd f10 f11 f12 n f14 (wd (((mX2_homeOf f8 ho p0) * (16 : Int32)) + (p1 &&& (15 : Int32))).toNatClampNeg) wd ho ro (upd pa rd (((mX2_homeOf f8 ho p0) * (16 : Int32)) + (p1 &&& (15 : Int32)))) rs E) H := hP
      have hD : va_D A (CWl a k LP N L f1 f2 f3 f4 f5 f6 f7 f8 rd f10 f11 f12 n f14 (wd (((mX2_homeOf f8 ho p0) * (16 : Int32)) + (p1 &&& (15 : Int32))).toNatClampNeg) wd ho ro (upd pa rd (((mX2_homeOf f8 ho p0) * (16 : Int32)) + (p1 &&& (15 : Int32)))) rs E) := hD
      refine lv_aload_n hx hb dX3_read_62 rfl (lv_at hl 2 rfl) ?_
      refine lv_dup hx hb dX3_read_63 rfl ?_
      refine va_get (D := (dC, dI)) (ci := 3) (v := .int (nI rd)) (C := RX3) (T := TX3) (N := 8) hx hb hta inA_X3 hown hK hP 4 rfl rfl 3 (by decide) (hta _ aw_88) (fun _ h9 => h9) rfl dX3_read_64 ?_
      refine lv_iconst (v := 1) hx hb dX3_read_67 (by decide) ?_
      refine lv_iadd hx hb dX3_read_68 ?_
      rw [show (nI rd) + (1 : Int32) = nI (rd + 1) from nI_add rd 1]
      refine va_put (D := (dC, dI)) (ci := 3) (v := .int (nI (rd + 1))) (ty := .int) (C := RX3) (T := TX3) (N := 8) hx hb hta inA_X3 tyX3 tyX3_ok nmX3 hown hK hP hD hS 4 rfl rfl 3 (by decide) (hta _ aw_88) (fun _ h9 => h9) rfl (by decide +kernel) rfl rfl (Nat.le_of_ble_eq_true rfl) dX3_read_69 (fun H locs hP hD hS => ?_)
      have hP : va_P (dC, dI) vwCl (CWl a k LP N L f1 f2 f3 f4 f5 f6 f7 f8 (rd + 1) f10 f11 f12 n f14 (wd (((mX2_homeOf f8 ho p0) * (16 : Int32)) + (p1 &&& (15 : Int32))).toNatClampNeg) wd ho ro (upd pa rd (((mX2_homeOf f8 ho p0) * (16 : Int32)) + (p1 &&& (15 : Int32)))) rs E) H := hP
      have hD : va_D A (CWl a k LP N L f1 f2 f3 f4 f5 f6 f7 f8 (rd + 1) f10 f11 f12 n f14 (wd (((mX2_homeOf f8 ho p0) * (16 : Int32)) + (p1 &&& (15 : Int32))).toNatClampNeg) wd ho ro (upd pa rd (((mX2_homeOf f8 ho p0) * (16 : Int32)) + (p1 &&& (15 : Int32)))) rs E) := hD
      refine lv_aload_n hx hb dX3_read_72 rfl (lv_at hl 2 rfl) ?_
      refine va_get (D := (dC, dI)) (ci := 3) (v := .long (wd (((mX2_homeOf f8 ho p0) * (16 : Int32)) + (p1 &&& (15 : Int32))).toNatClampNeg)) (C := RX3) (T := TX3) (N := 8) hx hb hta inA_X3 hown hK hP 4 rfl rfl 4 (by decide) (hta _ aw_90) (fun _ h9 => h9) rfl dX3_read_73 ?_
      refine lv_lconst (v := 1) hx hb dX3_read_76 (by decide) ?_
      refine lv_land hx hb dX3_read_77 ?_
      refine lv_lconst (v := 0) hx hb dX3_read_78 (by decide) ?_
      refine W.lcmp hx hb dX3_read_79 ?_
      refine lv_if_ne (tgt := 87) hx hb dX3_read_80 (by decide) (fun c_80_3 => ?_) (fun c_80_3 => ?_)
      · refine lv_iconst (v := 0) hx hb dX3_read_87 (by decide) ?_
        exact W.iret (v := (0 : Int32)) hx hb hr (fun t ht hW => ⟨⟨(0 : Int32), ((rd + 1), wd (((mX2_homeOf f8 ho p0) * (16 : Int32)) + (p1 &&& (15 : Int32))).toNatClampNeg, upd pa rd (((mX2_homeOf f8 ho p0) * (16 : Int32)) + (p1 &&& (15 : Int32)))), rfl, (by unfold mX3_read; rewrite [if_neg c_11_1]; rewrite [if_pos c_21_2]; rewrite [if_neg c_80_3]; (first | done | rfl)), by rw [ht]; exact hP, va_K.moved hW.alike hK, hD⟩, hS.F ht⟩) hS.2.2 dX3_read_88
      · refine lv_iconst (v := 2) hx hb dX3_read_83 (by decide) ?_
        refine lv_goto (tgt := 88) hx hb dX3_read_84 (by decide) ?_
        exact W.iret (v := (2 : Int32)) hx hb hr (fun t ht hW => ⟨⟨(2 : Int32), ((rd + 1), wd (((mX2_homeOf f8 ho p0) * (16 : Int32)) + (p1 &&& (15 : Int32))).toNatClampNeg, upd pa rd (((mX2_homeOf f8 ho p0) * (16 : Int32)) + (p1 &&& (15 : Int32)))), rfl, (by unfold mX3_read; rewrite [if_neg c_11_1]; rewrite [if_pos c_21_2]; rewrite [if_pos c_80_3]; (first | done | rfl)), by rw [ht]; exact hP, va_K.moved hW.alike hK, hD⟩, hS.F ht⟩) hS.2.2 dX3_read_88
    · refine lv_iconst (v := 5) hx hb dX3_read_24 (by decide) ?_
      exact W.iret (v := (5 : Int32)) hx hb hr (fun t ht hW => ⟨⟨(5 : Int32), (rd, lf, pa), rfl, (by unfold mX3_read; rewrite [if_neg c_11_1]; rewrite [if_neg c_21_2]; (first | done | rfl)), by rw [ht]; exact hP, va_K.moved hW.alike hK, hD⟩, hS.F ht⟩) hS.2.2 dX3_read_25
  · refine lv_bipush (v := 6) hx hb dX3_read_14 (by decide) ?_
    exact W.iret (v := (6 : Int32)) hx hb hr (fun t ht hW => ⟨⟨(6 : Int32), (rd, lf, pa), rfl, (by unfold mX3_read; rewrite [if_pos c_11_1]; (first | done | rfl)), by rw [ht]; exact hP, va_K.moved hW.alike hK, hD⟩, hS.F ht⟩) hS.2.2 dX3_read_16
/-- PageRows.finish -/
def mX4_finish (f7 : Int32) (p0 : Int32) (p1 : Int32) (p2 : Int32) : Int32 × Int32 × Int32 × Int32 :=
  if p0 = 0 then
    (p0, p2, (-1 : Int32), f7)
  else
    (p0, p2, p1, f7 + (1 : Int32))
set_option maxHeartbeats 4000000 in
set_option maxRecDepth 100000 in
theorem c_X4_finish (l : Launch) (dC : Nat → ClassId) (dI : Nat → Nat → Nat) (a : Nat → Nat) (k : Nat → ClassId) (LP : List Nat) (N : Nat) (L : Nat) (f1 f2 f3 f4 f5 f6 f7 f8 : Int32) (rd : Nat) (f10 f11 f12 : Int32) (n : Nat) (f14 : Int32) (lf : Int64) (wd : Nat → Int64) (ho ro pa : Nat → Int32) (rs : Nat → Option Nat) (E : Nat → Nat → Int32)  (sz : Nat) (p0 : Int32) (p1 : Int32) (p2 : Int32)  : Met l yX4_finish (wX4_finish :: AW) ({ frames := 0, cells := 0, slots := 0, locals := 0 }) (va_Pc [.ref (a 0), .int p0, .int p1, .int p2] (CPrQ dC dI (CWl a k LP N L f1 f2 f3 f4 f5 f6 f7 f8 rd f10 f11 f12 n f14 lf wd ho ro pa rs E) [(k 0, .long), (k 1, .int), (k 2, .int), (k 3, .object "PageRows$Entry"), (k 4, .int)] sz)) (va_Qi (fun (r : Int32) (u : Int32 × Int32 × Int32) => (r, u) = mX4_finish f7 p0 p1 p2) (fun (u : Int32 × Int32 × Int32) (t : State) => match u with | (f2', f3', f7') => va_P (dC, dI) vwCl (CWl a k LP N L f1 f2' f3' f4 f5 f6 f7' f8 rd f10 f11 f12 n f14 lf wd ho ro pa rs E) t.heap ∧ va_K (dC, dI) vwCl [(k 0, .long), (k 1, .int), (k 2, .int), (k 3, .object "PageRows$Entry"), (k 4, .int)] t ∧ va_D (va_A (CWl a k LP N L f1 f2 f3 f4 f5 f6 f7 f8 rd f10 f11 f12 n f14 lf wd ho ro pa rs E) sz) (CWl a k LP N L f1 f2' f3' f4 f5 f6 f7' f8 rd f10 f11 f12 n f14 lf wd ho ro pa rs E)) (va_A (CWl a k LP N L f1 f2 f3 f4 f5 f6 f7 f8 rd f10 f11 f12 n f14 lf wd ho ro pa rs E) sz)) 0 0 (va_A (CWl a k LP N L f1 f2 f3 f4 f5 f6 f7 f8 rd f10 f11 f12 n f14 lf wd ho ro pa rs E) sz) := by
  refine cx_of (cc := cX4_finish) (maxL := 4) (ret := some .int) (by decide) rfl (Nat.le_of_ble_eq_true rfl) ?_
  intro p e s m below meth c ls hx hb hr hts hown hlocks hml hnm hl hB
  have hta : ∀ w ∈ AW, w.before [.ref (a 0), .int p0, .int p1, .int p2].toArray s = true := fun w h => hts w (List.mem_cons_of_mem _ h)
  have hl : lv_has ls 4 [(0, .ref (a 0)), (1, .int p0), (2, .int p1), (3, .int p2)] := hl
  have hown : s.vm.findClass RX4 = some m.cls := hown
  obtain ⟨rfl, ⟨hP, hK, hN⟩, hD0⟩ := hB
  have hD := hD0.self (sz := s.heap.size)
  generalize hAe : va_A (CWl a k LP N L f1 f2 f3 f4 f5 f6 f7 f8 rd f10 f11 f12 n f14 lf wd ho ro pa rs E) s.heap.size = A at hD ⊢
  have hA : ∀ q : Nat, s.heap.size ≤ q → A q := fun q h => by rw [← hAe]; exact Or.inr h
  have hS : va_S A s.heap s.heap [] := va_S.rf
  refine lv_aload_n hx hb dX4_finish_0 rfl (lv_at hl 0 rfl) ?_
  refine lv_iload_n hx hb dX4_finish_1 rfl (lv_at hl 3 rfl) ?_
  refine va_put (D := (dC, dI)) (ci := 4) (v := .int p2) (ty := .int) (C := RX4) (T := TX4) (N := 12) hx hb hta inA_X4 tyX4 tyX4_ok nmX4 hown hK hP hD hS 0 rfl rfl 6 (by decide) (hta _ aw_178) (fun _ h9 => h9) rfl (by decide +kernel) rfl rfl (Nat.le_of_ble_eq_true rfl) dX4_finish_2 (fun H locs hP hD hS => ?_)
  have hP : va_P (dC, dI) vwCl (CWl a k LP N L f1 p2 f3 f4 f5 f6 f7 f8 rd f10 f11 f12 n f14 lf wd ho ro pa rs E) H := hP
  have hD : va_D A (CWl a k LP N L f1 p2 f3 f4 f5 f6 f7 f8 rd f10 f11 f12 n f14 lf wd ho ro pa rs E) := hD
  refine lv_aload_n hx hb dX4_finish_5 rfl (lv_at hl 0 rfl) ?_
  refine lv_iload_n hx hb dX4_finish_6 rfl (lv_at hl 1 rfl) ?_
  refine lv_if_ne (tgt := 14) hx hb dX4_finish_7 (by decide) (fun c_7_0 => ?_) (fun c_7_0 => ?_)
  · refine lv_iload_n hx hb dX4_finish_14 rfl (lv_at hl 2 rfl) ?_
    refine va_put (D := (dC, dI)) (ci := 4) (v := .int p1) (ty := .int) (C := RX4) (T := TX4) (N := 12) hx hb hta inA_X4 tyX4 tyX4_ok nmX4 hown hK hP hD hS 0 rfl rfl 7 (by decide) (hta _ aw_179) (fun _ h9 => h9) rfl (by decide +kernel) rfl rfl (Nat.le_of_ble_eq_true rfl) dX4_finish_15 (fun H locs hP hD hS => ?_)
    have hP : va_P (dC, dI) vwCl (CWl a k LP N L f1 p2 p1 f4 f5 f6 f7 f8 rd f10 f11 f12 n f14 lf wd ho ro pa rs E) H := hP
    have hD : va_D A (CWl a k LP N L f1 p2 p1 f4 f5 f6 f7 f8 rd f10 f11 f12 n f14 lf wd ho ro pa rs E) := hD
    refine lv_iload_n hx hb dX4_finish_18 rfl (lv_at hl 1 rfl) ?_
    refine lv_if_eq (tgt := 32) hx hb dX4_finish_19 (by decide) (fun c_19_1 => ?_) (fun c_19_1 => ?_)
    · exact absurd c_19_1 c_7_0
    · refine lv_aload_n hx hb dX4_finish_22 rfl (lv_at hl 0 rfl) ?_
      refine lv_dup hx hb dX4_finish_23 rfl ?_
      refine va_get (D := (dC, dI)) (ci := 4) (v := .int f7) (C := RX4) (T := TX4) (N := 12) hx hb hta inA_X4 hown hK hP 0 rfl rfl 11 (by decide) (hta _ aw_183) (fun _ h9 => h9) rfl dX4_finish_24 ?_
      refine lv_iconst (v := 1) hx hb dX4_finish_27 (by decide) ?_
      refine lv_iadd hx hb dX4_finish_28 ?_
      refine va_put (D := (dC, dI)) (ci := 4) (v := .int (f7 + (1 : Int32))) (ty := .int) (C := RX4) (T := TX4) (N := 12) hx hb hta inA_X4 tyX4 tyX4_ok nmX4 hown hK hP hD hS 0 rfl rfl 11 (by decide) (hta _ aw_183) (fun _ h9 => h9) rfl (by decide +kernel) rfl rfl (Nat.le_of_ble_eq_true rfl) dX4_finish_29 (fun H locs hP hD hS => ?_)
      have hP : va_P (dC, dI) vwCl (CWl a k LP N L f1 p2 p1 f4 f5 f6 (f7 + (1 : Int32)) f8 rd f10 f11 f12 n f14 lf wd ho ro pa rs E) H := hP
      have hD : va_D A (CWl a k LP N L f1 p2 p1 f4 f5 f6 (f7 + (1 : Int32)) f8 rd f10 f11 f12 n f14 lf wd ho ro pa rs E) := hD
      refine lv_iload_n hx hb dX4_finish_32 rfl (lv_at hl 1 rfl) ?_
      exact W.iret (v := p0) hx hb hr (fun t ht hW => ⟨⟨p0, (p2, p1, f7 + (1 : Int32)), rfl, (by unfold mX4_finish; rewrite [if_neg c_7_0]; (first | done | rfl)), by rw [ht]; exact hP, va_K.moved hW.alike hK, hD⟩, hS.F ht⟩) hS.2.2 dX4_finish_33
  · refine lv_iconst (v := (-1)) hx hb dX4_finish_10 (by decide) ?_
    refine lv_goto (tgt := 15) hx hb dX4_finish_11 (by decide) ?_
    refine va_put (D := (dC, dI)) (ci := 4) (v := .int (-1 : Int32)) (ty := .int) (C := RX4) (T := TX4) (N := 12) hx hb hta inA_X4 tyX4 tyX4_ok nmX4 hown hK hP hD hS 0 rfl rfl 7 (by decide) (hta _ aw_179) (fun _ h9 => h9) rfl (by decide +kernel) rfl rfl (Nat.le_of_ble_eq_true rfl) dX4_finish_15 (fun H locs hP hD hS => ?_)
    have hP : va_P (dC, dI) vwCl (CWl a k LP N L f1 p2 (-1 : Int32) f4 f5 f6 f7 f8 rd f10 f11 f12 n f14 lf wd ho ro pa rs E) H := hP
    have hD : va_D A (CWl a k LP N L f1 p2 (-1 : Int32) f4 f5 f6 f7 f8 rd f10 f11 f12 n f14 lf wd ho ro pa rs E) := hD
    refine lv_iload_n hx hb dX4_finish_18 rfl (lv_at hl 1 rfl) ?_
    refine lv_if_eq (tgt := 32) hx hb dX4_finish_19 (by decide) (fun c_19_2 => ?_) (fun c_19_2 => ?_)
    · refine lv_iload_n hx hb dX4_finish_32 rfl (lv_at hl 1 rfl) ?_
      exact W.iret (v := p0) hx hb hr (fun t ht hW => ⟨⟨p0, (p2, (-1 : Int32), f7), rfl, (by unfold mX4_finish; rewrite [if_pos c_7_0]; (first | done | rfl)), by rw [ht]; exact hP, va_K.moved hW.alike hK, hD⟩, hS.F ht⟩) hS.2.2 dX4_finish_33
    · exact absurd c_7_0 c_19_2
/-- PageRows.to -/
def mX4_to (f2 : Int32) : Int32 :=
  f2
set_option maxHeartbeats 4000000 in
set_option maxRecDepth 100000 in
theorem c_X4_to (l : Launch) (dC : Nat → ClassId) (dI : Nat → Nat → Nat) (a : Nat → Nat) (k : Nat → ClassId) (LP : List Nat) (N : Nat) (L : Nat) (f1 f2 f3 f4 f5 f6 f7 f8 : Int32) (rd : Nat) (f10 f11 f12 : Int32) (n : Nat) (f14 : Int32) (lf : Int64) (wd : Nat → Int64) (ho ro pa : Nat → Int32) (rs : Nat → Option Nat) (E : Nat → Nat → Int32)    : Met l yX4_to (wX4_to :: AW) ({ frames := 0, cells := 0, slots := 0, locals := 0 }) (va_Pc [.ref (a 0)] (CPre dC dI (CWl a k LP N L f1 f2 f3 f4 f5 f6 f7 f8 rd f10 f11 f12 n f14 lf wd ho ro pa rs E) [(k 0, .long), (k 1, .int), (k 2, .int), (k 3, .object "PageRows$Entry"), (k 4, .int)])) (vp_Si (fun r => r = mX4_to f2)) 0 0 (fun _ => False) := by
  refine cx_of (cc := cX4_to) (maxL := 1) (ret := some .int) (by decide) rfl (Nat.le_of_ble_eq_true rfl) ?_
  intro p e s m below meth c ls hx hb hr hts hown hlocks hml hnm hl hB
  have hta : ∀ w ∈ AW, w.before [.ref (a 0)].toArray s = true := fun w h => hts w (List.mem_cons_of_mem _ h)
  have hl : lv_has ls 1 [(0, .ref (a 0))] := hl
  have hown : s.vm.findClass RX4 = some m.cls := hown
  obtain ⟨hP, hK, hN⟩ := hB
  refine lv_aload_n hx hb dX4_to_0 rfl (lv_at hl 0 rfl) ?_
  refine va_get (D := (dC, dI)) (ci := 4) (v := .int f2) (C := RX4) (T := TX4) (N := 12) hx hb hta inA_X4 hown hK hP 0 rfl rfl 6 (by decide) (hta _ aw_178) (fun _ h9 => h9) rfl dX4_to_1 ?_
  exact W.iret (v := f2) hx hb hr (fun t ht hW => ⟨f2, rfl, (by unfold mX4_to; (first | done | rfl)), ht⟩) (fun q h => nomatch h) dX4_to_4
/-- PageRows.level -/
def mX4_level (f3 : Int32) : Int32 :=
  f3
set_option maxHeartbeats 4000000 in
set_option maxRecDepth 100000 in
theorem c_X4_level (l : Launch) (dC : Nat → ClassId) (dI : Nat → Nat → Nat) (a : Nat → Nat) (k : Nat → ClassId) (LP : List Nat) (N : Nat) (L : Nat) (f1 f2 f3 f4 f5 f6 f7 f8 : Int32) (rd : Nat) (f10 f11 f12 : Int32) (n : Nat) (f14 : Int32) (lf : Int64) (wd : Nat → Int64) (ho ro pa : Nat → Int32) (rs : Nat → Option Nat) (E : Nat → Nat → Int32)    : Met l yX4_level (wX4_level :: AW) ({ frames := 0, cells := 0, slots := 0, locals := 0 }) (va_Pc [.ref (a 0)] (CPre dC dI (CWl a k LP N L f1 f2 f3 f4 f5 f6 f7 f8 rd f10 f11 f12 n f14 lf wd ho ro pa rs E) [(k 0, .long), (k 1, .int), (k 2, .int), (k 3, .object "PageRows$Entry"), (k 4, .int)])) (vp_Si (fun r => r = mX4_level f3)) 0 0 (fun _ => False) := by
  refine cx_of (cc := cX4_level) (maxL := 1) (ret := some .int) (by decide) rfl (Nat.le_of_ble_eq_true rfl) ?_
  intro p e s m below meth c ls hx hb hr hts hown hlocks hml hnm hl hB
  have hta : ∀ w ∈ AW, w.before [.ref (a 0)].toArray s = true := fun w h => hts w (List.mem_cons_of_mem _ h)
  have hl : lv_has ls 1 [(0, .ref (a 0))] := hl
  have hown : s.vm.findClass RX4 = some m.cls := hown
  obtain ⟨hP, hK, hN⟩ := hB
  refine lv_aload_n hx hb dX4_level_0 rfl (lv_at hl 0 rfl) ?_
  refine va_get (D := (dC, dI)) (ci := 4) (v := .int f3) (C := RX4) (T := TX4) (N := 12) hx hb hta inA_X4 hown hK hP 0 rfl rfl 7 (by decide) (hta _ aw_179) (fun _ h9 => h9) rfl dX4_level_1 ?_
  exact W.iret (v := f3) hx hb hr (fun t ht hW => ⟨f3, rfl, (by unfold mX4_level; (first | done | rfl)), ht⟩) (fun q h => nomatch h) dX4_level_4
/-- PageRows.count -/
def mX4_count (N : Nat) (L : Nat) (f1 : Int32) (f4 : Int32) (f5 : Int32) (f6 : Int32) (f7 : Int32) (n : Nat) (f14 : Int32) (p0 : Int32) : Int32 :=
  if p0 = 0 then
    nI L
  else
    if p0 = 1 then
      nI N
    else
      if p0 = 2 then
        nI n
      else
        if p0 = 3 then
          f1
        else
          if p0 = 4 then
            f4
          else
            if p0 = 5 then
              f5
            else
              if p0 = 6 then
                f6
              else
                if p0 = 7 then
                  f7
                else
                  if p0 = 8 then
                    f14
                  else
                    (-1 : Int32)
set_option maxHeartbeats 4000000 in
set_option maxRecDepth 100000 in
theorem c_X4_count (l : Launch) (dC : Nat → ClassId) (dI : Nat → Nat → Nat) (a : Nat → Nat) (k : Nat → ClassId) (LP : List Nat) (N : Nat) (L : Nat) (f1 f2 f3 f4 f5 f6 f7 f8 : Int32) (rd : Nat) (f10 f11 f12 : Int32) (n : Nat) (f14 : Int32) (lf : Int64) (wd : Nat → Int64) (ho ro pa : Nat → Int32) (rs : Nat → Option Nat) (E : Nat → Nat → Int32)  (p0 : Int32)  : Met l yX4_count (wX4_count :: AW) ({ frames := 0, cells := 0, slots := 0, locals := 0 }) (va_Pc [.ref (a 0), .int p0] (CPre dC dI (CWl a k LP N L f1 f2 f3 f4 f5 f6 f7 f8 rd f10 f11 f12 n f14 lf wd ho ro pa rs E) [(k 0, .long), (k 1, .int), (k 2, .int), (k 3, .object "PageRows$Entry"), (k 4, .int)])) (vp_Si (fun r => r = mX4_count N L f1 f4 f5 f6 f7 n f14 p0)) 0 0 (fun _ => False) := by
  refine cx_of (cc := cX4_count) (maxL := 2) (ret := some .int) (by decide) rfl (Nat.le_of_ble_eq_true rfl) ?_
  intro p e s m below meth c ls hx hb hr hts hown hlocks hml hnm hl hB
  have hta : ∀ w ∈ AW, w.before [.ref (a 0), .int p0].toArray s = true := fun w h => hts w (List.mem_cons_of_mem _ h)
  have hl : lv_has ls 2 [(0, .ref (a 0)), (1, .int p0)] := hl
  have hown : s.vm.findClass RX4 = some m.cls := hown
  obtain ⟨hP, hK, hN⟩ := hB
  refine lv_iload_n hx hb dX4_count_0 rfl (lv_at hl 1 rfl) ?_
  by_cases c_sw_0 : p0 = 0
  · refine lv_tableIn (tgt := 52) hx hb dX4_count_1 (by rw [c_sw_0]; decide) (by rw [c_sw_0]; decide) (by rw [c_sw_0]; rfl) (by decide) ?_
    refine lv_aload_n hx hb dX4_count_52 rfl (lv_at hl 0 rfl) ?_
    refine va_get (D := (dC, dI)) (ci := 4) (v := .int (nI L)) (C := RX4) (T := TX4) (N := 12) hx hb hta inA_X4 hown hK hP 0 rfl rfl 0 (by decide) (hta _ aw_172) (fun _ h9 => h9) rfl dX4_count_53 ?_
    exact W.iret (v := nI L) hx hb hr (fun t ht hW => ⟨nI L, rfl, (by unfold mX4_count; rewrite [if_pos c_sw_0]; (first | done | rfl)), ht⟩) (fun q h => nomatch h) dX4_count_56
  · by_cases c_sw_1 : p0 = 1
    · refine lv_tableIn (tgt := 57) hx hb dX4_count_1 (by rw [c_sw_1]; decide) (by rw [c_sw_1]; decide) (by rw [c_sw_1]; rfl) (by decide) ?_
      refine lv_aload_n hx hb dX4_count_57 rfl (lv_at hl 0 rfl) ?_
      refine va_get (D := (dC, dI)) (ci := 4) (v := .ref (a 6)) (C := RX4) (T := TX4) (N := 12) hx hb hta inA_X4 hown hK hP 0 rfl rfl 3 (by decide) (hta _ aw_175) (fun _ h9 => h9) rfl dX4_count_58 ?_
      refine va_getN (D := (dC, dI)) (ci := 0) (v := .ref (a 7)) (C := RX0) (T := TX0) (N := 3) hx hb hta inA_X0 hown hK hP 6 rfl rfl 0 (by decide) (hN.nf 21 rfl) (fun _ h9 => h9) rfl dX4_count_61 ?_
      refine va_alen (v := nI N) hx hb hK hP 7 3 rfl rfl rfl dX4_count_64 ?_
      exact W.iret (v := nI N) hx hb hr (fun t ht hW => ⟨nI N, rfl, (by unfold mX4_count; rewrite [if_neg c_sw_0]; rewrite [if_pos c_sw_1]; (first | done | rfl)), ht⟩) (fun q h => nomatch h) dX4_count_65
    · by_cases c_sw_2 : p0 = 2
      · refine lv_tableIn (tgt := 66) hx hb dX4_count_1 (by rw [c_sw_2]; decide) (by rw [c_sw_2]; decide) (by rw [c_sw_2]; rfl) (by decide) ?_
        refine lv_aload_n hx hb dX4_count_66 rfl (lv_at hl 0 rfl) ?_
        refine va_get (D := (dC, dI)) (ci := 4) (v := .ref (a 6)) (C := RX4) (T := TX4) (N := 12) hx hb hta inA_X4 hown hK hP 0 rfl rfl 3 (by decide) (hta _ aw_175) (fun _ h9 => h9) rfl dX4_count_67 ?_
        refine va_getN (D := (dC, dI)) (ci := 0) (v := .int (nI n)) (C := RX0) (T := TX0) (N := 3) hx hb hta inA_X0 hown hK hP 6 rfl rfl 1 (by decide) (hN.nf 22 rfl) (fun _ h9 => h9) rfl dX4_count_70 ?_
        exact W.iret (v := nI n) hx hb hr (fun t ht hW => ⟨nI n, rfl, (by unfold mX4_count; rewrite [if_neg c_sw_0]; rewrite [if_neg c_sw_1]; rewrite [if_pos c_sw_2]; (first | done | rfl)), ht⟩) (fun q h => nomatch h) dX4_count_73
      · by_cases c_sw_3 : p0 = 3
        · refine lv_tableIn (tgt := 74) hx hb dX4_count_1 (by rw [c_sw_3]; decide) (by rw [c_sw_3]; decide) (by rw [c_sw_3]; rfl) (by decide) ?_
          refine lv_aload_n hx hb dX4_count_74 rfl (lv_at hl 0 rfl) ?_
          refine va_get (D := (dC, dI)) (ci := 4) (v := .int f1) (C := RX4) (T := TX4) (N := 12) hx hb hta inA_X4 hown hK hP 0 rfl rfl 5 (by decide) (hta _ aw_177) (fun _ h9 => h9) rfl dX4_count_75 ?_
          exact W.iret (v := f1) hx hb hr (fun t ht hW => ⟨f1, rfl, (by unfold mX4_count; rewrite [if_neg c_sw_0]; rewrite [if_neg c_sw_1]; rewrite [if_neg c_sw_2]; rewrite [if_pos c_sw_3]; (first | done | rfl)), ht⟩) (fun q h => nomatch h) dX4_count_78
        · by_cases c_sw_4 : p0 = 4
          · refine lv_tableIn (tgt := 79) hx hb dX4_count_1 (by rw [c_sw_4]; decide) (by rw [c_sw_4]; decide) (by rw [c_sw_4]; rfl) (by decide) ?_
            refine lv_aload_n hx hb dX4_count_79 rfl (lv_at hl 0 rfl) ?_
            refine va_get (D := (dC, dI)) (ci := 4) (v := .int f4) (C := RX4) (T := TX4) (N := 12) hx hb hta inA_X4 hown hK hP 0 rfl rfl 8 (by decide) (hta _ aw_180) (fun _ h9 => h9) rfl dX4_count_80 ?_
            exact W.iret (v := f4) hx hb hr (fun t ht hW => ⟨f4, rfl, (by unfold mX4_count; rewrite [if_neg c_sw_0]; rewrite [if_neg c_sw_1]; rewrite [if_neg c_sw_2]; rewrite [if_neg c_sw_3]; rewrite [if_pos c_sw_4]; (first | done | rfl)), ht⟩) (fun q h => nomatch h) dX4_count_83
          · by_cases c_sw_5 : p0 = 5
            · refine lv_tableIn (tgt := 84) hx hb dX4_count_1 (by rw [c_sw_5]; decide) (by rw [c_sw_5]; decide) (by rw [c_sw_5]; rfl) (by decide) ?_
              refine lv_aload_n hx hb dX4_count_84 rfl (lv_at hl 0 rfl) ?_
              refine va_get (D := (dC, dI)) (ci := 4) (v := .int f5) (C := RX4) (T := TX4) (N := 12) hx hb hta inA_X4 hown hK hP 0 rfl rfl 9 (by decide) (hta _ aw_181) (fun _ h9 => h9) rfl dX4_count_85 ?_
              exact W.iret (v := f5) hx hb hr (fun t ht hW => ⟨f5, rfl, (by unfold mX4_count; rewrite [if_neg c_sw_0]; rewrite [if_neg c_sw_1]; rewrite [if_neg c_sw_2]; rewrite [if_neg c_sw_3]; rewrite [if_neg c_sw_4]; rewrite [if_pos c_sw_5]; (first | done | rfl)), ht⟩) (fun q h => nomatch h) dX4_count_88
            · by_cases c_sw_6 : p0 = 6
              · refine lv_tableIn (tgt := 89) hx hb dX4_count_1 (by rw [c_sw_6]; decide) (by rw [c_sw_6]; decide) (by rw [c_sw_6]; rfl) (by decide) ?_
                refine lv_aload_n hx hb dX4_count_89 rfl (lv_at hl 0 rfl) ?_
                refine va_get (D := (dC, dI)) (ci := 4) (v := .int f6) (C := RX4) (T := TX4) (N := 12) hx hb hta inA_X4 hown hK hP 0 rfl rfl 10 (by decide) (hta _ aw_182) (fun _ h9 => h9) rfl dX4_count_90 ?_
                exact W.iret (v := f6) hx hb hr (fun t ht hW => ⟨f6, rfl, (by unfold mX4_count; rewrite [if_neg c_sw_0]; rewrite [if_neg c_sw_1]; rewrite [if_neg c_sw_2]; rewrite [if_neg c_sw_3]; rewrite [if_neg c_sw_4]; rewrite [if_neg c_sw_5]; rewrite [if_pos c_sw_6]; (first | done | rfl)), ht⟩) (fun q h => nomatch h) dX4_count_93
              · by_cases c_sw_7 : p0 = 7
                · refine lv_tableIn (tgt := 94) hx hb dX4_count_1 (by rw [c_sw_7]; decide) (by rw [c_sw_7]; decide) (by rw [c_sw_7]; rfl) (by decide) ?_
                  refine lv_aload_n hx hb dX4_count_94 rfl (lv_at hl 0 rfl) ?_
                  refine va_get (D := (dC, dI)) (ci := 4) (v := .int f7) (C := RX4) (T := TX4) (N := 12) hx hb hta inA_X4 hown hK hP 0 rfl rfl 11 (by decide) (hta _ aw_183) (fun _ h9 => h9) rfl dX4_count_95 ?_
                  exact W.iret (v := f7) hx hb hr (fun t ht hW => ⟨f7, rfl, (by unfold mX4_count; rewrite [if_neg c_sw_0]; rewrite [if_neg c_sw_1]; rewrite [if_neg c_sw_2]; rewrite [if_neg c_sw_3]; rewrite [if_neg c_sw_4]; rewrite [if_neg c_sw_5]; rewrite [if_neg c_sw_6]; rewrite [if_pos c_sw_7]; (first | done | rfl)), ht⟩) (fun q h => nomatch h) dX4_count_98
                · by_cases c_sw_8 : p0 = 8
                  · refine lv_tableIn (tgt := 99) hx hb dX4_count_1 (by rw [c_sw_8]; decide) (by rw [c_sw_8]; decide) (by rw [c_sw_8]; rfl) (by decide) ?_
                    refine lv_aload_n hx hb dX4_count_99 rfl (lv_at hl 0 rfl) ?_
                    refine va_get (D := (dC, dI)) (ci := 4) (v := .ref (a 6)) (C := RX4) (T := TX4) (N := 12) hx hb hta inA_X4 hown hK hP 0 rfl rfl 3 (by decide) (hta _ aw_175) (fun _ h9 => h9) rfl dX4_count_100 ?_
                    refine va_getN (D := (dC, dI)) (ci := 0) (v := .int f14) (C := RX0) (T := TX0) (N := 3) hx hb hta inA_X0 hown hK hP 6 rfl rfl 2 (by decide) (hN.nf 23 rfl) (fun _ h9 => h9) rfl dX4_count_103 ?_
                    exact W.iret (v := f14) hx hb hr (fun t ht hW => ⟨f14, rfl, (by unfold mX4_count; rewrite [if_neg c_sw_0]; rewrite [if_neg c_sw_1]; rewrite [if_neg c_sw_2]; rewrite [if_neg c_sw_3]; rewrite [if_neg c_sw_4]; rewrite [if_neg c_sw_5]; rewrite [if_neg c_sw_6]; rewrite [if_neg c_sw_7]; rewrite [if_pos c_sw_8]; (first | done | rfl)), ht⟩) (fun q h => nomatch h) dX4_count_106
                  · refine lv_tableOut (tgt := 107) hx hb dX4_count_1 (cx_swout (x := p0) 8 (by decide) (fun j hj => match j, hj with | 0, _ => c_sw_0 | 1, _ => c_sw_1 | 2, _ => c_sw_2 | 3, _ => c_sw_3 | 4, _ => c_sw_4 | 5, _ => c_sw_5 | 6, _ => c_sw_6 | 7, _ => c_sw_7 | 8, _ => c_sw_8 | q + 9, h => absurd h (by omega))) (by decide) ?_
                    refine lv_iconst (v := (-1)) hx hb dX4_count_107 (by decide) ?_
                    exact W.iret (v := (-1 : Int32)) hx hb hr (fun t ht hW => ⟨(-1 : Int32), rfl, (by unfold mX4_count; rewrite [if_neg c_sw_0]; rewrite [if_neg c_sw_1]; rewrite [if_neg c_sw_2]; rewrite [if_neg c_sw_3]; rewrite [if_neg c_sw_4]; rewrite [if_neg c_sw_5]; rewrite [if_neg c_sw_6]; rewrite [if_neg c_sw_7]; rewrite [if_neg c_sw_8]; (first | done | rfl)), ht⟩) (fun q h => nomatch h) dX4_count_108
end
section
/-- PageRows$Entry.standsFor -/
def mX1_standsFor (E : Nat → Nat → Int32) (y0 : Nat) (p0 : Int32) (p1 : Int32) : Int32 :=
  if (E 0 y0) = p0 then
    if (E 2 y0) = (jushr p1 (mX4_bitsBelow (E 1 y0))) then
      (1 : Int32)
    else
      (0 : Int32)
  else
    (0 : Int32)
set_option maxHeartbeats 4000000 in
set_option maxRecDepth 100000 in
theorem c_X1_standsFor (l : Launch) (dC : Nat → ClassId) (dI : Nat → Nat → Nat) (a : Nat → Nat) (k : Nat → ClassId) (LP : List Nat) (N : Nat) (L : Nat) (f1 f2 f3 f4 f5 f6 f7 f8 : Int32) (rd : Nat) (f10 f11 f12 : Int32) (n : Nat) (f14 : Int32) (lf : Int64) (wd : Nat → Int64) (ho ro pa : Nat → Int32) (rs : Nat → Option Nat) (E : Nat → Nat → Int32) (y0 : Nat) (hy0 : y0 ∈ LP) (p0 : Int32) (p1 : Int32)  : Met l yX1_standsFor (wX1_standsFor :: AW) ({ frames := 1, cells := 0, slots := 0, locals := 20 }) (va_Pc [.ref y0, .int p0, .int p1] (CPre dC dI (CWl a k LP N L f1 f2 f3 f4 f5 f6 f7 f8 rd f10 f11 f12 n f14 lf wd ho ro pa rs E) [(k 0, .long), (k 1, .int), (k 2, .int), (k 3, .object "PageRows$Entry"), (k 4, .int)])) (vp_Si (fun r => r = mX1_standsFor E y0 p0 p1)) 0 0 (fun _ => False) := by
  refine cx_of (cc := cX1_standsFor) (maxL := 3) (ret := some .boolean) (by decide) rfl (Nat.le_of_ble_eq_true rfl) ?_
  intro p e s m below meth c ls hx hb hr hts hown hlocks hml hnm hl hB
  have hta : ∀ w ∈ AW, w.before [.ref y0, .int p0, .int p1].toArray s = true := fun w h => hts w (List.mem_cons_of_mem _ h)
  have hl : lv_has ls 3 [(0, .ref y0), (1, .int p0), (2, .int p1)] := hl
  have hown : s.vm.findClass RX1 = some m.cls := hown
  obtain ⟨hP, hK, hN⟩ := hB
  refine lv_aload_n hx hb dX1_standsFor_0 rfl (lv_at hl 0 rfl) ?_
  obtain ⟨k_1, hk_1⟩ := va_pl_get (X := (CWx a k N L f1 f2 f3 f4 f5 f6 f7 f8 rd f10 f11 f12 n f14 lf wd ho ro pa rs)) (f := (CEf E)) hy0
  refine va_get (D := (dC, dI)) (ci := 1) (v := .int (E 0 y0)) (C := RX1) (T := TX1) (N := 6) hx hb hta inA_X1 hown hK hP k_1 hk_1 rfl 0 (by decide) (hta _ aw_128) (fun _ h9 => h9) rfl dX1_standsFor_1 ?_
  refine lv_iload_n hx hb dX1_standsFor_4 rfl (lv_at hl 1 rfl) ?_
  refine lv_icmp_ne (tgt := 28) hx hb dX1_standsFor_5 (by decide) (fun c_5_1 => ?_) (fun c_5_1 => ?_)
  · refine lv_iconst (v := 0) hx hb dX1_standsFor_28 (by decide) ?_
    exact W.zret (ty := .boolean) (v := (0 : Int32)) hx hb hr rfl (fun t ht hW => ⟨(0 : Int32), rfl, (by unfold mX1_standsFor; rewrite [if_neg c_5_1]; (first | done | rfl)), ht⟩) (fun q h => nomatch h) dX1_standsFor_29
  · refine lv_aload_n hx hb dX1_standsFor_8 rfl (lv_at hl 0 rfl) ?_
    obtain ⟨k_3, hk_3⟩ := va_pl_get (X := (CWx a k N L f1 f2 f3 f4 f5 f6 f7 f8 rd f10 f11 f12 n f14 lf wd ho ro pa rs)) (f := (CEf E)) hy0
    refine va_get (D := (dC, dI)) (ci := 1) (v := .int (E 2 y0)) (C := RX1) (T := TX1) (N := 6) hx hb hta inA_X1 hown hK hP k_3 hk_3 rfl 2 (by decide) (hta _ aw_134) (fun _ h9 => h9) rfl dX1_standsFor_9 ?_
    refine lv_iload_n hx hb dX1_standsFor_12 rfl (lv_at hl 2 rfl) ?_
    refine lv_aload_n hx hb dX1_standsFor_13 rfl (lv_at hl 0 rfl) ?_
    obtain ⟨k_4, hk_4⟩ := va_pl_get (X := (CWx a k N L f1 f2 f3 f4 f5 f6 f7 f8 rd f10 f11 f12 n f14 lf wd ho ro pa rs)) (f := (CEf E)) hy0
    refine va_get (D := (dC, dI)) (ci := 1) (v := .int (E 1 y0)) (C := RX1) (T := TX1) (N := 6) hx hb hta inA_X1 hown hK hP k_4 hk_4 rfl 1 (by decide) (hta _ aw_131) (fun _ h9 => h9) rfl dX1_standsFor_14 ?_
    refine cx_callSi (va_runSN (As := [.int (E 1 y0)]) (rest := [.int p1, .int (E 2 y0)]) ⟨hx, hb, hml, hown, hta⟩ (c_X4_bitsBelow l (E 1 y0)) ⟨va_cnB 1 hta (gC aw_372) rfl rfl rfl (hN.nm 6 rfl) (hta _ aw_38) (by decide +kernel) ⟨Nat.le_of_ble_eq_true rfl, Nat.le_of_ble_eq_true rfl⟩, (hta _ aw_371), trivial⟩ cx_pre0 rfl rfl hl.1 rfl (lv_room (Nat.le_of_ble_eq_true rfl)) dX1_standsFor_17 ⟨Nat.le_of_ble_eq_true rfl, Nat.le_of_ble_eq_true rfl⟩) (fun r hw_5 => ?_)
    subst hw_5
    refine lv_iushr (v := jushr p1 (mX4_bitsBelow (E 1 y0))) hx hb dX1_standsFor_20 rfl ?_
    refine lv_icmp_ne (tgt := 28) hx hb dX1_standsFor_21 (by decide) (fun c_21_5 => ?_) (fun c_21_5 => ?_)
    · refine lv_iconst (v := 0) hx hb dX1_standsFor_28 (by decide) ?_
      exact W.zret (ty := .boolean) (v := (0 : Int32)) hx hb hr rfl (fun t ht hW => ⟨(0 : Int32), rfl, (by unfold mX1_standsFor; rewrite [if_pos c_5_1]; rewrite [if_neg c_21_5]; (first | done | rfl)), ht⟩) (fun q h => nomatch h) dX1_standsFor_29
    · refine lv_iconst (v := 1) hx hb dX1_standsFor_24 (by decide) ?_
      refine lv_goto (tgt := 29) hx hb dX1_standsFor_25 (by decide) ?_
      exact W.zret (ty := .boolean) (v := (1 : Int32)) hx hb hr rfl (fun t ht hW => ⟨(1 : Int32), rfl, (by unfold mX1_standsFor; rewrite [if_pos c_5_1]; rewrite [if_pos c_21_5]; (first | done | rfl)), ht⟩) (fun q h => nomatch h) dX1_standsFor_29
theorem mX1_standsFor_z (E : Nat → Nat → Int32) (y0 : Nat) (p0 : Int32) (p1 : Int32) : narrow .boolean (.int (mX1_standsFor E y0 p0 p1)) = .int (mX1_standsFor E y0 p0 p1) := by
  unfold mX1_standsFor
  repeat' split
  all_goals first | rfl | exact rfl
/-- PageRows$Entry.part -/
def mX1_part (E : Nat → Nat → Int32) (y0 : Nat) (p0 : Int32) : Int32 :=
  if p0 = 0 then
    E 0 y0
  else
    if p0 = 1 then
      E 1 y0
    else
      if p0 = 2 then
        E 2 y0
      else
        if p0 = 3 then
          E 3 y0
        else
          if p0 = 4 then
            E 4 y0
          else
            if (E 5 y0) = 0 then
              (0 : Int32)
            else
              (1 : Int32)
set_option maxHeartbeats 4000000 in
set_option maxRecDepth 100000 in
theorem c_X1_part (l : Launch) (dC : Nat → ClassId) (dI : Nat → Nat → Nat) (a : Nat → Nat) (k : Nat → ClassId) (LP : List Nat) (N : Nat) (L : Nat) (f1 f2 f3 f4 f5 f6 f7 f8 : Int32) (rd : Nat) (f10 f11 f12 : Int32) (n : Nat) (f14 : Int32) (lf : Int64) (wd : Nat → Int64) (ho ro pa : Nat → Int32) (rs : Nat → Option Nat) (E : Nat → Nat → Int32) (y0 : Nat) (hy0 : y0 ∈ LP) (p0 : Int32)  : Met l yX1_part (wX1_part :: AW) ({ frames := 0, cells := 0, slots := 0, locals := 0 }) (va_Pc [.ref y0, .int p0] (CPre dC dI (CWl a k LP N L f1 f2 f3 f4 f5 f6 f7 f8 rd f10 f11 f12 n f14 lf wd ho ro pa rs E) [(k 0, .long), (k 1, .int), (k 2, .int), (k 3, .object "PageRows$Entry"), (k 4, .int)])) (vp_Si (fun r => r = mX1_part E y0 p0)) 0 0 (fun _ => False) := by
  refine cx_of (cc := cX1_part) (maxL := 2) (ret := some .int) (by decide) rfl (Nat.le_of_ble_eq_true rfl) ?_
  intro p e s m below meth c ls hx hb hr hts hown hlocks hml hnm hl hB
  have hta : ∀ w ∈ AW, w.before [.ref y0, .int p0].toArray s = true := fun w h => hts w (List.mem_cons_of_mem _ h)
  have hl : lv_has ls 2 [(0, .ref y0), (1, .int p0)] := hl
  have hown : s.vm.findClass RX1 = some m.cls := hown
  obtain ⟨hP, hK, hN⟩ := hB
  refine lv_iload_n hx hb dX1_part_0 rfl (lv_at hl 1 rfl) ?_
  by_cases c_sw_0 : p0 = 0
  · refine lv_tableIn (tgt := 36) hx hb dX1_part_1 (by rw [c_sw_0]; decide) (by rw [c_sw_0]; decide) (by rw [c_sw_0]; rfl) (by decide) ?_
    refine lv_aload_n hx hb dX1_part_36 rfl (lv_at hl 0 rfl) ?_
    obtain ⟨k_1, hk_1⟩ := va_pl_get (X := (CWx a k N L f1 f2 f3 f4 f5 f6 f7 f8 rd f10 f11 f12 n f14 lf wd ho ro pa rs)) (f := (CEf E)) hy0
    refine va_get (D := (dC, dI)) (ci := 1) (v := .int (E 0 y0)) (C := RX1) (T := TX1) (N := 6) hx hb hta inA_X1 hown hK hP k_1 hk_1 rfl 0 (by decide) (hta _ aw_128) (fun _ h9 => h9) rfl dX1_part_37 ?_
    exact W.iret (v := E 0 y0) hx hb hr (fun t ht hW => ⟨E 0 y0, rfl, (by unfold mX1_part; rewrite [if_pos c_sw_0]; (first | done | rfl)), ht⟩) (fun q h => nomatch h) dX1_part_40
  · by_cases c_sw_1 : p0 = 1
    · refine lv_tableIn (tgt := 41) hx hb dX1_part_1 (by rw [c_sw_1]; decide) (by rw [c_sw_1]; decide) (by rw [c_sw_1]; rfl) (by decide) ?_
      refine lv_aload_n hx hb dX1_part_41 rfl (lv_at hl 0 rfl) ?_
      obtain ⟨k_2, hk_2⟩ := va_pl_get (X := (CWx a k N L f1 f2 f3 f4 f5 f6 f7 f8 rd f10 f11 f12 n f14 lf wd ho ro pa rs)) (f := (CEf E)) hy0
      refine va_get (D := (dC, dI)) (ci := 1) (v := .int (E 1 y0)) (C := RX1) (T := TX1) (N := 6) hx hb hta inA_X1 hown hK hP k_2 hk_2 rfl 1 (by decide) (hta _ aw_131) (fun _ h9 => h9) rfl dX1_part_42 ?_
      exact W.iret (v := E 1 y0) hx hb hr (fun t ht hW => ⟨E 1 y0, rfl, (by unfold mX1_part; rewrite [if_neg c_sw_0]; rewrite [if_pos c_sw_1]; (first | done | rfl)), ht⟩) (fun q h => nomatch h) dX1_part_45
    · by_cases c_sw_2 : p0 = 2
      · refine lv_tableIn (tgt := 46) hx hb dX1_part_1 (by rw [c_sw_2]; decide) (by rw [c_sw_2]; decide) (by rw [c_sw_2]; rfl) (by decide) ?_
        refine lv_aload_n hx hb dX1_part_46 rfl (lv_at hl 0 rfl) ?_
        obtain ⟨k_3, hk_3⟩ := va_pl_get (X := (CWx a k N L f1 f2 f3 f4 f5 f6 f7 f8 rd f10 f11 f12 n f14 lf wd ho ro pa rs)) (f := (CEf E)) hy0
        refine va_get (D := (dC, dI)) (ci := 1) (v := .int (E 2 y0)) (C := RX1) (T := TX1) (N := 6) hx hb hta inA_X1 hown hK hP k_3 hk_3 rfl 2 (by decide) (hta _ aw_134) (fun _ h9 => h9) rfl dX1_part_47 ?_
        exact W.iret (v := E 2 y0) hx hb hr (fun t ht hW => ⟨E 2 y0, rfl, (by unfold mX1_part; rewrite [if_neg c_sw_0]; rewrite [if_neg c_sw_1]; rewrite [if_pos c_sw_2]; (first | done | rfl)), ht⟩) (fun q h => nomatch h) dX1_part_50
      · by_cases c_sw_3 : p0 = 3
        · refine lv_tableIn (tgt := 51) hx hb dX1_part_1 (by rw [c_sw_3]; decide) (by rw [c_sw_3]; decide) (by rw [c_sw_3]; rfl) (by decide) ?_
          refine lv_aload_n hx hb dX1_part_51 rfl (lv_at hl 0 rfl) ?_
          obtain ⟨k_4, hk_4⟩ := va_pl_get (X := (CWx a k N L f1 f2 f3 f4 f5 f6 f7 f8 rd f10 f11 f12 n f14 lf wd ho ro pa rs)) (f := (CEf E)) hy0
          refine va_get (D := (dC, dI)) (ci := 1) (v := .int (E 3 y0)) (C := RX1) (T := TX1) (N := 6) hx hb hta inA_X1 hown hK hP k_4 hk_4 rfl 3 (by decide) (hta _ aw_137) (fun _ h9 => h9) rfl dX1_part_52 ?_
          exact W.iret (v := E 3 y0) hx hb hr (fun t ht hW => ⟨E 3 y0, rfl, (by unfold mX1_part; rewrite [if_neg c_sw_0]; rewrite [if_neg c_sw_1]; rewrite [if_neg c_sw_2]; rewrite [if_pos c_sw_3]; (first | done | rfl)), ht⟩) (fun q h => nomatch h) dX1_part_55
        · by_cases c_sw_4 : p0 = 4
          · refine lv_tableIn (tgt := 56) hx hb dX1_part_1 (by rw [c_sw_4]; decide) (by rw [c_sw_4]; decide) (by rw [c_sw_4]; rfl) (by decide) ?_
            refine lv_aload_n hx hb dX1_part_56 rfl (lv_at hl 0 rfl) ?_
            obtain ⟨k_5, hk_5⟩ := va_pl_get (X := (CWx a k N L f1 f2 f3 f4 f5 f6 f7 f8 rd f10 f11 f12 n f14 lf wd ho ro pa rs)) (f := (CEf E)) hy0
            refine va_get (D := (dC, dI)) (ci := 1) (v := .int (E 4 y0)) (C := RX1) (T := TX1) (N := 6) hx hb hta inA_X1 hown hK hP k_5 hk_5 rfl 4 (by decide) (hta _ aw_140) (fun _ h9 => h9) rfl dX1_part_57 ?_
            exact W.iret (v := E 4 y0) hx hb hr (fun t ht hW => ⟨E 4 y0, rfl, (by unfold mX1_part; rewrite [if_neg c_sw_0]; rewrite [if_neg c_sw_1]; rewrite [if_neg c_sw_2]; rewrite [if_neg c_sw_3]; rewrite [if_pos c_sw_4]; (first | done | rfl)), ht⟩) (fun q h => nomatch h) dX1_part_60
          · refine lv_tableOut (tgt := 61) hx hb dX1_part_1 (cx_swout (x := p0) 4 (by decide) (fun j hj => match j, hj with | 0, _ => c_sw_0 | 1, _ => c_sw_1 | 2, _ => c_sw_2 | 3, _ => c_sw_3 | 4, _ => c_sw_4 | q + 5, h => absurd h (by omega))) (by decide) ?_
            refine lv_aload_n hx hb dX1_part_61 rfl (lv_at hl 0 rfl) ?_
            obtain ⟨k_6, hk_6⟩ := va_pl_get (X := (CWx a k N L f1 f2 f3 f4 f5 f6 f7 f8 rd f10 f11 f12 n f14 lf wd ho ro pa rs)) (f := (CEf E)) hy0
            refine va_get (D := (dC, dI)) (ci := 1) (v := .int (E 5 y0)) (C := RX1) (T := TX1) (N := 6) hx hb hta inA_X1 hown hK hP k_6 hk_6 rfl 5 (by decide) (hta _ aw_143) (fun _ h9 => h9) rfl dX1_part_62 ?_
            refine lv_if_eq (tgt := 72) hx hb dX1_part_65 (by decide) (fun c_65_6 => ?_) (fun c_65_6 => ?_)
            · refine lv_iconst (v := 0) hx hb dX1_part_72 (by decide) ?_
              exact W.iret (v := (0 : Int32)) hx hb hr (fun t ht hW => ⟨(0 : Int32), rfl, (by unfold mX1_part; rewrite [if_neg c_sw_0]; rewrite [if_neg c_sw_1]; rewrite [if_neg c_sw_2]; rewrite [if_neg c_sw_3]; rewrite [if_neg c_sw_4]; rewrite [if_pos c_65_6]; (first | done | rfl)), ht⟩) (fun q h => nomatch h) dX1_part_73
            · refine lv_iconst (v := 1) hx hb dX1_part_68 (by decide) ?_
              refine lv_goto (tgt := 73) hx hb dX1_part_69 (by decide) ?_
              exact W.iret (v := (1 : Int32)) hx hb hr (fun t ht hW => ⟨(1 : Int32), rfl, (by unfold mX1_part; rewrite [if_neg c_sw_0]; rewrite [if_neg c_sw_1]; rewrite [if_neg c_sw_2]; rewrite [if_neg c_sw_3]; rewrite [if_neg c_sw_4]; rewrite [if_neg c_65_6]; (first | done | rfl)), ht⟩) (fun q h => nomatch h) dX1_part_73
end
section
def rowA (rs : Nat → Option Nat) (i : Nat) : Nat := (rs i).getD 0
/-- Entries.find: from row i on, j rows left -/
def mFind (rs : Nat → Option Nat) (E : Nat → Nat → Int32) (p0 p1 : Int32) : Nat → Nat → Option Nat
  | 0, _ => none
  | j + 1, i => if mX1_standsFor E (rowA rs i) p0 p1 = 0 then mFind rs E p0 p1 j (i + 1) else some i
def optI : Option Nat → Int32
  | none => (-1 : Int32)
  | some j => nI j
theorem mFind_lt (rs : Nat → Option Nat) (E : Nat → Nat → Int32) (p0 p1 : Int32) : ∀ (j i x : Nat), mFind rs E p0 p1 j i = some x → x < i + j
  | 0, i, x, h => by cases h
  | j + 1, i, x, h => by
    unfold mFind at h
    have ih := mFind_lt rs E p0 p1 j (i + 1) x
    split at h
    · have := ih h; omega
    · cases h; omega

set_option maxHeartbeats 4000000 in
set_option maxRecDepth 100000 in
theorem c_X0_find (l : Launch) (dC : Nat → ClassId) (dI : Nat → Nat → Nat) (a : Nat → Nat) (k : Nat → ClassId) (LP : List Nat) (N : Nat) (L : Nat) (f1 f2 f3 f4 f5 f6 f7 f8 : Int32) (rd : Nat) (f10 f11 f12 : Int32) (n : Nat) (f14 : Int32) (lf : Int64) (wd : Nat → Int64) (ho ro pa : Nat → Int32) (rs : Nat → Option Nat) (E : Nat → Nat → Int32)  (p0 : Int32) (p1 : Int32) (hn : n ≤ N) (hN32 : N ≤ 32) (hrow : ∀ i, i < N → rs i = some (rowA rs i) ∧ rowA rs i ∈ LP) : Met l yX0_find (wX0_find :: AW) ({ frames := 2, cells := 0, slots := 0, locals := 42 }) (va_Pc [.ref (a 6), .int p0, .int p1] (CPre dC dI (CWl a k LP N L f1 f2 f3 f4 f5 f6 f7 f8 rd f10 f11 f12 n f14 lf wd ho ro pa rs E) [(k 0, .long), (k 1, .int), (k 2, .int), (k 3, .object "PageRows$Entry"), (k 4, .int)])) (vp_Si (fun r => r = optI (mFind rs E p0 p1 n 0))) 0 0 (fun _ => False) := by
  refine cx_of (cc := cX0_find) (maxL := 4) (ret := some .int) (by decide) rfl (Nat.le_of_ble_eq_true rfl) ?_
  intro p e s m below meth c ls hx hb hr hts hown hlocks hml hnm hl hB
  have hta : ∀ w ∈ AW, w.before [.ref (a 6), .int p0, .int p1].toArray s = true := fun w h => hts w (List.mem_cons_of_mem _ h)
  have hl : lv_has ls 4 [(0, .ref (a 6)), (1, .int p0), (2, .int p1)] := hl
  have hown : s.vm.findClass RX0 = some m.cls := hown
  obtain ⟨hP, hK, hN⟩ := hB
  have loop : ∀ (j i : Nat), i + j = n → mFind rs E p0 p1 n 0 = mFind rs E p0 p1 j i → ∀ (ls : Array Slot), lv_has ls 4 [(3, .int (nI i)), (0, .ref (a 6)), (1, .int p0), (2, .int p1)] → W p l e ({ frames := 2, cells := 0, slots := 0, locals := 42 }) s m [.ref (a 6), .int p0, .int p1].toArray below meth c s.heap [] 0 0 (MQ below (vp_Si (fun r => r = optI (mFind rs E p0 p1 n 0))) [.ref (a 6), .int p0, .int p1].toArray s 0 0 (fun _ => False)) (F0 m 2 ls []) := by
    intro j
    induction j with
    | zero =>
      intro i hi hm ls hl
      refine lv_iload_n hx hb dX0_find_2 rfl (lv_at hl 0 rfl) ?_
      refine lv_aload_n hx hb dX0_find_3 rfl (lv_at hl 1 rfl) ?_
      refine va_get (D := (dC, dI)) (ci := 0) (v := .int (nI n)) (C := RX0) (T := TX0) (N := 3) hx hb hta inA_X0 hown hK hP 6 rfl rfl 1 (by decide) (hta _ aw_161) (fun _ h9 => h9) rfl dX0_find_4 ?_
      refine lv_icmp_ge (tgt := 32) hx hb dX0_find_7 (by decide) (fun c_7_0 => ?_) (fun c_7_0 => ?_)
      · refine lv_iconst (v := (-1)) hx hb dX0_find_32 (by decide) ?_
        exact W.iret (v := (-1 : Int32)) hx hb hr (fun t ht hW => ⟨(-1 : Int32), rfl, (by rw [hm]; rfl), ht⟩) (fun q h => nomatch h) dX0_find_33
      · exact absurd (nI_le (by omega) (by omega)) c_7_0
    | succ j ih =>
      intro i hi hm ls hl
      refine lv_iload_n hx hb dX0_find_2 rfl (lv_at hl 0 rfl) ?_
      refine lv_aload_n hx hb dX0_find_3 rfl (lv_at hl 1 rfl) ?_
      refine va_get (D := (dC, dI)) (ci := 0) (v := .int (nI n)) (C := RX0) (T := TX0) (N := 3) hx hb hta inA_X0 hown hK hP 6 rfl rfl 1 (by decide) (hta _ aw_161) (fun _ h9 => h9) rfl dX0_find_4 ?_
      refine lv_icmp_ge (tgt := 32) hx hb dX0_find_7 (by decide) (fun c_7_1 => ?_) (fun c_7_1 => ?_)
      · exact absurd c_7_1 (nI_ge (by omega) (by omega))
      · refine lv_aload_n hx hb dX0_find_10 rfl (lv_at hl 1 rfl) ?_
        refine va_get (D := (dC, dI)) (ci := 0) (v := .ref (a 7)) (C := RX0) (T := TX0) (N := 3) hx hb hta inA_X0 hown hK hP 6 rfl rfl 0 (by decide) (hta _ aw_159) (fun _ h9 => h9) rfl dX0_find_11 ?_
        refine lv_iload_n hx hb dX0_find_14 rfl (lv_at hl 0 rfl) ?_
        refine cx_aald hx hb hK hP 7 3 rfl rfl (vp_in_nI (by omega) (by omega)) (by rw [nI_clamp (by omega)]; exact (hrow i (by omega)).1) dX0_find_15 ?_
        refine lv_iload_n hx hb dX0_find_16 rfl (lv_at hl 2 rfl) ?_
        refine lv_iload_n hx hb dX0_find_17 rfl (lv_at hl 3 rfl) ?_
        refine cx_callSi (va_runVN (As := [.int p0, .int p1]) (rest := []) ⟨hx, hb, hml, hown, hta⟩ (c_X1_standsFor l dC dI a k LP N L f1 f2 f3 f4 f5 f6 f7 f8 rd f10 f11 f12 n f14 lf wd ho ro pa rs E (rowA rs i) ((hrow i (by omega)).2) p0 p1) ⟨va_cnB 2 hta (gC aw_369) rfl rfl rfl (hN.nm 5 rfl) (hta _ aw_42) (by decide +kernel) ⟨Nat.le_of_ble_eq_true rfl, Nat.le_of_ble_eq_true rfl⟩, (hta _ aw_368), (hta _ aw_2)⟩ (cx_preVS hK hP hN (cx_recvP (ci := 1) hK hP (hrow i (by omega)).2 rfl rfl)) rfl rfl hl.1 rfl (lv_room (Nat.le_of_ble_eq_true rfl)) dX0_find_18 ⟨Nat.le_of_ble_eq_true rfl, Nat.le_of_ble_eq_true rfl⟩) (fun r hw_3 => ?_)
        subst hw_3
        refine lv_if_eq (tgt := 26) hx hb dX0_find_21 (by decide) (fun c_21_3 => ?_) (fun c_21_3 => ?_)
        · refine lv_iinc (v := nI (i + 1)) (lv' := [(3, .int (nI (i + 1))), (0, .ref (a 6)), (1, .int p0), (2, .int p1)]) hx hb dX0_find_26 hl (k := 0) rfl (cx_inc i 1 rfl) (by decide) rfl (fun ls hl => ?_)
          refine lv_goto (tgt := 2) hx hb dX0_find_29 (by decide) ?_
          exact ih (i + 1) (by omega) (by rw [hm, mFind, if_pos c_21_3]) ls (lv_sub hl [0, 1, 2, 3] rfl)
        · refine lv_iload_n hx hb dX0_find_24 rfl (lv_at hl 0 rfl) ?_
          exact W.iret (v := nI i) hx hb hr (fun t ht hW => ⟨nI i, rfl, (by rw [hm, mFind, if_neg c_21_3]; rfl), ht⟩) (fun q h => nomatch h) dX0_find_25
  refine lv_iconst (v := 0) hx hb dX0_find_0 (by decide) ?_
  refine lv_istore_n (lv' := [(3, .int (0 : Int32)), (0, .ref (a 6)), (1, .int p0), (2, .int p1)]) hx hb dX0_find_1 rfl hl (by decide) rfl (fun ls hl => ?_)
  exact loop n 0 (by omega) rfl ls (lv_sub hl [0, 1, 2, 3] rfl)
end
section
/-- PageRows$Entries.isMeant -/
def mX0_isMeant (E : Nat → Nat → Int32) (y0 : Nat) (p1 : Int32) (p2 : Int32) (p3 : Int32) : Int32 :=
  if p1 = 0 then
    (1 : Int32)
  else
    if p1 = 1 then
      if (E 0 y0) = p2 then
        (1 : Int32)
      else
        (0 : Int32)
    else
      mX1_standsFor E y0 p2 p3
set_option maxHeartbeats 4000000 in
set_option maxRecDepth 100000 in
theorem c_X0_isMeant (l : Launch) (dC : Nat → ClassId) (dI : Nat → Nat → Nat) (a : Nat → Nat) (k : Nat → ClassId) (LP : List Nat) (N : Nat) (L : Nat) (f1 f2 f3 f4 f5 f6 f7 f8 : Int32) (rd : Nat) (f10 f11 f12 : Int32) (n : Nat) (f14 : Int32) (lf : Int64) (wd : Nat → Int64) (ho ro pa : Nat → Int32) (rs : Nat → Option Nat) (E : Nat → Nat → Int32) (y0 : Nat) (hy0 : y0 ∈ LP) (p1 : Int32) (p2 : Int32) (p3 : Int32)  : Met l yX0_isMeant (wX0_isMeant :: AW) ({ frames := 2, cells := 0, slots := 0, locals := 42 }) (va_Pc [.ref y0, .int p1, .int p2, .int p3] (CPre dC dI (CWl a k LP N L f1 f2 f3 f4 f5 f6 f7 f8 rd f10 f11 f12 n f14 lf wd ho ro pa rs E) [(k 0, .long), (k 1, .int), (k 2, .int), (k 3, .object "PageRows$Entry"), (k 4, .int)])) (vp_Si (fun r => r = mX0_isMeant E y0 p1 p2 p3)) 0 0 (fun _ => False) := by
  refine cx_of (cc := cX0_isMeant) (maxL := 4) (ret := some .boolean) (by decide) rfl (Nat.le_of_ble_eq_true rfl) ?_
  intro p e s m below meth c ls hx hb hr hts hown hlocks hml hnm hl hB
  have hta : ∀ w ∈ AW, w.before [.ref y0, .int p1, .int p2, .int p3].toArray s = true := fun w h => hts w (List.mem_cons_of_mem _ h)
  have hl : lv_has ls 4 [(0, .ref y0), (1, .int p1), (2, .int p2), (3, .int p3)] := hl
  have hown : s.vm.findClass RX0 = some m.cls := hown
  obtain ⟨hP, hK, hN⟩ := hB
  refine lv_iload_n hx hb dX0_isMeant_0 rfl (lv_at hl 1 rfl) ?_
  by_cases c_sw_0 : p1 = 0
  · refine lv_lookup (tgt := 28) (off := 27) hx hb dX0_isMeant_1 (by decide) (by subst c_sw_0; rfl) (by decide) ?_
    refine lv_iconst (v := 1) hx hb dX0_isMeant_28 (by decide) ?_
    exact W.zret (ty := .boolean) (v := (1 : Int32)) hx hb hr rfl (fun t ht hW => ⟨(1 : Int32), rfl, (by unfold mX0_isMeant; rewrite [if_pos c_sw_0]; (first | done | rfl)), ht⟩) (fun q h => nomatch h) dX0_isMeant_29
  · by_cases c_sw_1 : p1 = 1
    · refine lv_lookup (tgt := 30) (off := 29) hx hb dX0_isMeant_1 (by decide) (by subst c_sw_1; rfl) (by decide) ?_
      refine lv_aload_n hx hb dX0_isMeant_30 rfl (lv_at hl 0 rfl) ?_
      obtain ⟨k_1, hk_1⟩ := va_pl_get (X := (CWx a k N L f1 f2 f3 f4 f5 f6 f7 f8 rd f10 f11 f12 n f14 lf wd ho ro pa rs)) (f := (CEf E)) hy0
      refine va_getN (D := (dC, dI)) (ci := 1) (v := .int (E 0 y0)) (C := RX1) (T := TX1) (N := 6) hx hb hta inA_X1 hown hK hP k_1 hk_1 rfl 0 (by decide) (hN.nf 9 rfl) (fun _ h9 => h9) rfl dX0_isMeant_31 ?_
      refine lv_iload_n hx hb dX0_isMeant_34 rfl (lv_at hl 2 rfl) ?_
      refine lv_icmp_ne (tgt := 42) hx hb dX0_isMeant_35 (by decide) (fun c_35_1 => ?_) (fun c_35_1 => ?_)
      · refine lv_iconst (v := 0) hx hb dX0_isMeant_42 (by decide) ?_
        exact W.zret (ty := .boolean) (v := (0 : Int32)) hx hb hr rfl (fun t ht hW => ⟨(0 : Int32), rfl, (by unfold mX0_isMeant; rewrite [if_neg c_sw_0]; rewrite [if_pos c_sw_1]; rewrite [if_neg c_35_1]; (first | done | rfl)), ht⟩) (fun q h => nomatch h) dX0_isMeant_43
      · refine lv_iconst (v := 1) hx hb dX0_isMeant_38 (by decide) ?_
        refine lv_goto (tgt := 43) hx hb dX0_isMeant_39 (by decide) ?_
        exact W.zret (ty := .boolean) (v := (1 : Int32)) hx hb hr rfl (fun t ht hW => ⟨(1 : Int32), rfl, (by unfold mX0_isMeant; rewrite [if_neg c_sw_0]; rewrite [if_pos c_sw_1]; rewrite [if_pos c_35_1]; (first | done | rfl)), ht⟩) (fun q h => nomatch h) dX0_isMeant_43
    · refine lv_lookup (tgt := 44) (off := 43) hx hb dX0_isMeant_1 (by decide) (by show Op.lookupswitch.offset [(0, 27), (1, 29)] 43 _ = 43; rw [lv_osw (k := 0) (a := 0) c_sw_0 (by decide)]; rw [lv_osw (k := 1) (a := 1) c_sw_1 (by decide)]; rfl) (by decide) ?_
      refine lv_aload_n hx hb dX0_isMeant_44 rfl (lv_at hl 0 rfl) ?_
      refine lv_iload_n hx hb dX0_isMeant_45 rfl (lv_at hl 2 rfl) ?_
      refine lv_iload_n hx hb dX0_isMeant_46 rfl (lv_at hl 3 rfl) ?_
      refine cx_callSi (va_runVN (As := [.int p2, .int p3]) (rest := []) ⟨hx, hb, hml, hown, hta⟩ (c_X1_standsFor l dC dI a k LP N L f1 f2 f3 f4 f5 f6 f7 f8 rd f10 f11 f12 n f14 lf wd ho ro pa rs E y0 hy0 p2 p3) ⟨va_cnB 2 hta (gC aw_369) rfl rfl rfl (hN.nm 5 rfl) (hta _ aw_42) (by decide +kernel) ⟨Nat.le_of_ble_eq_true rfl, Nat.le_of_ble_eq_true rfl⟩, (hta _ aw_368), (hta _ aw_2)⟩ (cx_preVS hK hP hN (cx_recvP (ci := 1) hK hP hy0 rfl rfl)) rfl rfl hl.1 rfl (lv_room (Nat.le_of_ble_eq_true rfl)) dX0_isMeant_47 ⟨Nat.le_of_ble_eq_true rfl, Nat.le_of_ble_eq_true rfl⟩) (fun r hw_3 => ?_)
      subst hw_3
      exact W.zret (ty := .boolean) (v := mX1_standsFor E y0 p2 p3) hx hb hr (mX1_standsFor_z E y0 p2 p3) (fun t ht hW => ⟨mX1_standsFor E y0 p2 p3, rfl, (by unfold mX0_isMeant; rewrite [if_neg c_sw_0]; rewrite [if_neg c_sw_1]; (first | done | rfl)), ht⟩) (fun q h => nomatch h) dX0_isMeant_50
theorem mX0_isMeant_z (E : Nat → Nat → Int32) (y0 : Nat) (p1 : Int32) (p2 : Int32) (p3 : Int32) : narrow .boolean (.int (mX0_isMeant E y0 p1 p2 p3)) = .int (mX0_isMeant E y0 p1 p2 p3) := by
  unfold mX0_isMeant
  repeat' split
  all_goals first | rfl | exact mX1_standsFor_z _ _ _ _
/-- PageRows.needsChangedMark -/
def mX4_needsChangedMark (E : Nat → Nat → Int32) (y0 : Nat) (p1 : Int32) : Int32 :=
  if (mX4_isWrite p1) = 0 then
    (0 : Int32)
  else
    if (E 5 y0) = 0 then
      if (mX4_allows (E 4 y0) p1) = 0 then
        (0 : Int32)
      else
        (1 : Int32)
    else
      (0 : Int32)
set_option maxHeartbeats 4000000 in
set_option maxRecDepth 100000 in
theorem c_X4_needsChangedMark (l : Launch) (dC : Nat → ClassId) (dI : Nat → Nat → Nat) (a : Nat → Nat) (k : Nat → ClassId) (LP : List Nat) (N : Nat) (L : Nat) (f1 f2 f3 f4 f5 f6 f7 f8 : Int32) (rd : Nat) (f10 f11 f12 : Int32) (n : Nat) (f14 : Int32) (lf : Int64) (wd : Nat → Int64) (ho ro pa : Nat → Int32) (rs : Nat → Option Nat) (E : Nat → Nat → Int32) (y0 : Nat) (hy0 : y0 ∈ LP) (p1 : Int32)  : Met l yX4_needsChangedMark (wX4_needsChangedMark :: AW) ({ frames := 1, cells := 0, slots := 0, locals := 23 }) (va_Pc [.ref y0, .int p1] (CPre dC dI (CWl a k LP N L f1 f2 f3 f4 f5 f6 f7 f8 rd f10 f11 f12 n f14 lf wd ho ro pa rs E) [(k 0, .long), (k 1, .int), (k 2, .int), (k 3, .object "PageRows$Entry"), (k 4, .int)])) (vp_Si (fun r => r = mX4_needsChangedMark E y0 p1)) 0 0 (fun _ => False) := by
  refine cx_of (cc := cX4_needsChangedMark) (maxL := 2) (ret := some .boolean) (by decide) rfl (Nat.le_of_ble_eq_true rfl) ?_
  intro p e s m below meth c ls hx hb hr hts hown hlocks hml hnm hl hB
  have hta : ∀ w ∈ AW, w.before [.ref y0, .int p1].toArray s = true := fun w h => hts w (List.mem_cons_of_mem _ h)
  have hl : lv_has ls 2 [(0, .ref y0), (1, .int p1)] := hl
  have hown : s.vm.findClass RX4 = some m.cls := hown
  obtain ⟨hP, hK, hN⟩ := hB
  refine lv_iload_n hx hb dX4_needsChangedMark_0 rfl (lv_at hl 1 rfl) ?_
  refine cx_callSi (va_runS (As := [.int p1]) (rest := []) ⟨hx, hb, hml, hown, hta⟩ (c_X4_isWrite l p1) (va_cwS 1 hta (gS aw_376 aw_377 aw_38 aw_378) rfl rfl rfl (by decide +kernel) ⟨Nat.le_of_ble_eq_true rfl, Nat.le_of_ble_eq_true rfl⟩) cx_pre0 rfl rfl hl.1 rfl (lv_room (Nat.le_of_ble_eq_true rfl)) dX4_needsChangedMark_1 ⟨Nat.le_of_ble_eq_true rfl, Nat.le_of_ble_eq_true rfl⟩) (fun r hw_1 => ?_)
  subst hw_1
  refine lv_if_eq (tgt := 29) hx hb dX4_needsChangedMark_4 (by decide) (fun c_4_1 => ?_) (fun c_4_1 => ?_)
  · refine lv_iconst (v := 0) hx hb dX4_needsChangedMark_29 (by decide) ?_
    exact W.zret (ty := .boolean) (v := (0 : Int32)) hx hb hr rfl (fun t ht hW => ⟨(0 : Int32), rfl, (by unfold mX4_needsChangedMark; rewrite [if_pos c_4_1]; (first | done | rfl)), ht⟩) (fun q h => nomatch h) dX4_needsChangedMark_30
  · refine lv_aload_n hx hb dX4_needsChangedMark_7 rfl (lv_at hl 0 rfl) ?_
    obtain ⟨k_3, hk_3⟩ := va_pl_get (X := (CWx a k N L f1 f2 f3 f4 f5 f6 f7 f8 rd f10 f11 f12 n f14 lf wd ho ro pa rs)) (f := (CEf E)) hy0
    refine va_getN (D := (dC, dI)) (ci := 1) (v := .int (E 5 y0)) (C := RX1) (T := TX1) (N := 6) hx hb hta inA_X1 hown hK hP k_3 hk_3 rfl 5 (by decide) (hN.nf 20 rfl) (fun _ h9 => h9) rfl dX4_needsChangedMark_8 ?_
    refine lv_if_ne (tgt := 29) hx hb dX4_needsChangedMark_11 (by decide) (fun c_11_3 => ?_) (fun c_11_3 => ?_)
    · refine lv_iconst (v := 0) hx hb dX4_needsChangedMark_29 (by decide) ?_
      exact W.zret (ty := .boolean) (v := (0 : Int32)) hx hb hr rfl (fun t ht hW => ⟨(0 : Int32), rfl, (by unfold mX4_needsChangedMark; rewrite [if_neg c_4_1]; rewrite [if_neg c_11_3]; (first | done | rfl)), ht⟩) (fun q h => nomatch h) dX4_needsChangedMark_30
    · refine lv_aload_n hx hb dX4_needsChangedMark_14 rfl (lv_at hl 0 rfl) ?_
      obtain ⟨k_5, hk_5⟩ := va_pl_get (X := (CWx a k N L f1 f2 f3 f4 f5 f6 f7 f8 rd f10 f11 f12 n f14 lf wd ho ro pa rs)) (f := (CEf E)) hy0
      refine va_getN (D := (dC, dI)) (ci := 1) (v := .int (E 4 y0)) (C := RX1) (T := TX1) (N := 6) hx hb hta inA_X1 hown hK hP k_5 hk_5 rfl 4 (by decide) (hN.nf 18 rfl) (fun _ h9 => h9) rfl dX4_needsChangedMark_15 ?_
      refine lv_iload_n hx hb dX4_needsChangedMark_18 rfl (lv_at hl 1 rfl) ?_
      refine cx_callSi (va_runS (As := [.int (E 4 y0), .int p1]) (rest := []) ⟨hx, hb, hml, hown, hta⟩ (c_X4_allows l (E 4 y0) p1) (va_cwS 2 hta (gS aw_379 aw_380 aw_38 aw_381) rfl rfl rfl (by decide +kernel) ⟨Nat.le_of_ble_eq_true rfl, Nat.le_of_ble_eq_true rfl⟩) cx_pre0 rfl rfl hl.1 rfl (lv_room (Nat.le_of_ble_eq_true rfl)) dX4_needsChangedMark_19 ⟨Nat.le_of_ble_eq_true rfl, Nat.le_of_ble_eq_true rfl⟩) (fun r hw_6 => ?_)
      subst hw_6
      refine lv_if_eq (tgt := 29) hx hb dX4_needsChangedMark_22 (by decide) (fun c_22_6 => ?_) (fun c_22_6 => ?_)
      · refine lv_iconst (v := 0) hx hb dX4_needsChangedMark_29 (by decide) ?_
        exact W.zret (ty := .boolean) (v := (0 : Int32)) hx hb hr rfl (fun t ht hW => ⟨(0 : Int32), rfl, (by unfold mX4_needsChangedMark; rewrite [if_neg c_4_1]; rewrite [if_pos c_11_3]; rewrite [if_pos c_22_6]; (first | done | rfl)), ht⟩) (fun q h => nomatch h) dX4_needsChangedMark_30
      · refine lv_iconst (v := 1) hx hb dX4_needsChangedMark_25 (by decide) ?_
        refine lv_goto (tgt := 30) hx hb dX4_needsChangedMark_26 (by decide) ?_
        exact W.zret (ty := .boolean) (v := (1 : Int32)) hx hb hr rfl (fun t ht hW => ⟨(1 : Int32), rfl, (by unfold mX4_needsChangedMark; rewrite [if_neg c_4_1]; rewrite [if_pos c_11_3]; rewrite [if_neg c_22_6]; (first | done | rfl)), ht⟩) (fun q h => nomatch h) dX4_needsChangedMark_30
theorem mX4_needsChangedMark_z (E : Nat → Nat → Int32) (y0 : Nat) (p1 : Int32) : narrow .boolean (.int (mX4_needsChangedMark E y0 p1)) = .int (mX4_needsChangedMark E y0 p1) := by
  unfold mX4_needsChangedMark
  repeat' split
  all_goals first | rfl | exact rfl
end
section
/-- rows i+1 .. k hold what stood one before -/
def shf (rs : Nat → Option Nat) (k i : Nat) : Nat → Option Nat := fun j => if i < j ∧ j ≤ k then rs (j - 1) else rs j
def useRs (rs : Nat → Option Nat) (k : Nat) : Nat → Option Nat := fun j => if j = 0 then rs k else if j ≤ k then rs (j - 1) else rs j
theorem shf_self (rs : Nat → Option Nat) (k : Nat) : shf rs k k = rs := by
  funext j
  unfold shf
  rw [if_neg (by omega)]
theorem shf_step (rs : Nat → Option Nat) {k i : Nat} (h : i + 1 ≤ k) : va_up (shf rs k (i + 1)) (i + 1) (rs i) = shf rs k i := by
  funext j
  by_cases hj : j = i + 1
  · subst hj
    rw [va_up_self]
    unfold shf
    rw [if_pos (by omega)]
    rfl
  · rw [va_up_ne _ _ hj]
    unfold shf
    by_cases h1 : i < j ∧ j ≤ k
    · rw [if_pos h1, if_pos (by omega)]
    · rw [if_neg h1, if_neg (by omega)]
theorem shf_end (rs : Nat → Option Nat) (k : Nat) : va_up (shf rs k 0) 0 (rs k) = useRs rs k := by
  funext j
  by_cases hj : j = 0
  · subst hj
    rw [va_up_self]
    rfl
  · rw [va_up_ne _ _ hj]
    unfold shf useRs
    rw [if_neg hj]
    by_cases h1 : j ≤ k
    · rw [if_pos (by omega), if_pos h1]
    · rw [if_neg (by omega), if_neg h1]
theorem shf_low (rs : Nat → Option Nat) {k i j : Nat} (h : j ≤ i) : shf rs k i j = rs j := by
  unfold shf
  rw [if_neg (by omega)]
theorem rowA_some {rs : Nat → Option Nat} {i y : Nat} (h : rs i = some y) : rowA rs i = y := by
  unfold rowA
  rw [h]
  rfl

set_option maxHeartbeats 4000000 in
set_option maxRecDepth 100000 in
theorem c_X0_use (l : Launch) (dC : Nat → ClassId) (dI : Nat → Nat → Nat) (a : Nat → Nat) (k : Nat → ClassId) (LP : List Nat) (N : Nat) (L : Nat) (f1 f2 f3 f4 f5 f6 f7 f8 : Int32) (rd : Nat) (f10 f11 f12 : Int32) (n : Nat) (f14 : Int32) (lf : Int64) (wd : Nat → Int64) (ho ro pa : Nat → Int32) (rs : Nat → Option Nat) (E : Nat → Nat → Int32)  (sz : Nat) (p0 : Nat) (hk : p0 < N) (hN32 : N ≤ 32) (hrow : ∀ i, i < N → rs i = some (rowA rs i) ∧ rowA rs i ∈ LP) : Met l yX0_use (wX0_use :: AW) ({ frames := 0, cells := 0, slots := 0, locals := 0 }) (va_Pc [.ref (a 6), .int (nI p0)] (CPrQ dC dI (CWl a k LP N L f1 f2 f3 f4 f5 f6 f7 f8 rd f10 f11 f12 n f14 lf wd ho ro pa rs E) [(k 0, .long), (k 1, .int), (k 2, .int), (k 3, .object "PageRows$Entry"), (k 4, .int)] sz)) (va_Qv (fun (u : (Nat → Option Nat)) => u = useRs rs p0) (fun (u : (Nat → Option Nat)) (t : State) => match u with | rs' => va_P (dC, dI) vwCl (CWl a k LP N L f1 f2 f3 f4 f5 f6 f7 f8 rd f10 f11 f12 n f14 lf wd ho ro pa rs' E) t.heap ∧ va_K (dC, dI) vwCl [(k 0, .long), (k 1, .int), (k 2, .int), (k 3, .object "PageRows$Entry"), (k 4, .int)] t ∧ va_D (va_A (CWl a k LP N L f1 f2 f3 f4 f5 f6 f7 f8 rd f10 f11 f12 n f14 lf wd ho ro pa rs E) sz) (CWl a k LP N L f1 f2 f3 f4 f5 f6 f7 f8 rd f10 f11 f12 n f14 lf wd ho ro pa rs' E)) (va_A (CWl a k LP N L f1 f2 f3 f4 f5 f6 f7 f8 rd f10 f11 f12 n f14 lf wd ho ro pa rs E) sz)) 0 0 (va_A (CWl a k LP N L f1 f2 f3 f4 f5 f6 f7 f8 rd f10 f11 f12 n f14 lf wd ho ro pa rs E) sz) := by
  refine cx_of (cc := cX0_use) (maxL := 4) (ret := none) (by decide) rfl (Nat.le_of_ble_eq_true rfl) ?_
  intro p e s m below meth c ls hx hb hr hts hown hlocks hml hnm hl hB
  have hta : ∀ w ∈ AW, w.before [.ref (a 6), .int (nI p0)].toArray s = true := fun w h => hts w (List.mem_cons_of_mem _ h)
  have hl : lv_has ls 4 [(0, .ref (a 6)), (1, .int (nI p0))] := hl
  have hown : s.vm.findClass RX0 = some m.cls := hown
  obtain ⟨rfl, ⟨hP, hK, hN⟩, hD0⟩ := hB
  have hD := hD0.self (sz := s.heap.size)
  generalize hAe : va_A (CWl a k LP N L f1 f2 f3 f4 f5 f6 f7 f8 rd f10 f11 f12 n f14 lf wd ho ro pa rs E) s.heap.size = A at hD ⊢
  have hA : ∀ q : Nat, s.heap.size ≤ q → A q := fun q h => by rw [← hAe]; exact Or.inr h
  have hS : va_S A s.heap s.heap [] := va_S.rf
  have loop : ∀ (i : Nat), i ≤ p0 → ∀ (H : Heap) (locs : List Loc), va_P (dC, dI) vwCl (CWl a k LP N L f1 f2 f3 f4 f5 f6 f7 f8 rd f10 f11 f12 n f14 lf wd ho ro pa (shf rs p0 i) E) H → va_D A (CWl a k LP N L f1 f2 f3 f4 f5 f6 f7 f8 rd f10 f11 f12 n f14 lf wd ho ro pa (shf rs p0 i) E) → va_S A s.heap H locs → ∀ (ls : Array Slot), lv_has ls 4 [(3, .int (nI i)), (2, .ref (rowA rs p0)), (0, .ref (a 6)), (1, .int (nI p0))] → W p l e ({ frames := 0, cells := 0, slots := 0, locals := 0 }) s m [.ref (a 6), .int (nI p0)].toArray below meth c H locs 0 0 (MQ below (va_Qv (fun (u : (Nat → Option Nat)) => u = useRs rs p0) (fun (u : (Nat → Option Nat)) (t : State) => match u with | rs' => va_P (dC, dI) vwCl (CWl a k LP N L f1 f2 f3 f4 f5 f6 f7 f8 rd f10 f11 f12 n f14 lf wd ho ro pa rs' E) t.heap ∧ va_K (dC, dI) vwCl [(k 0, .long), (k 1, .int), (k 2, .int), (k 3, .object "PageRows$Entry"), (k 4, .int)] t ∧ va_D A (CWl a k LP N L f1 f2 f3 f4 f5 f6 f7 f8 rd f10 f11 f12 n f14 lf wd ho ro pa rs' E)) A) [.ref (a 6), .int (nI p0)].toArray s 0 0 A) (F0 m 9 ls []) := by
    intro i
    induction i with
    | zero =>
      intro hi H locs hP hD hS ls hl
      refine lv_iload_n hx hb dX0_use_9 rfl (lv_at hl 0 rfl) ?_
      refine lv_if_le (tgt := 33) hx hb dX0_use_10 (by decide) (fun c_10_0 => ?_) (fun c_10_0 => ?_)
      · refine lv_aload_n hx hb dX0_use_33 rfl (lv_at hl 2 rfl) ?_
        refine va_get (D := (dC, dI)) (ci := 0) (v := .ref (a 7)) (C := RX0) (T := TX0) (N := 3) hx hb hta inA_X0 hown hK hP 6 rfl rfl 0 (by decide) (hta _ aw_159) (fun _ h9 => h9) rfl dX0_use_34 ?_
        refine lv_iconst (v := 0) hx hb dX0_use_37 (by decide) ?_
        refine lv_aload_n hx hb dX0_use_38 rfl (lv_at hl 1 rfl) ?_
        obtain ⟨k_2, hk_2⟩ := va_pl_get (X := (CWx a k N L f1 f2 f3 f4 f5 f6 f7 f8 rd f10 f11 f12 n f14 lf wd ho ro pa (shf rs p0 0))) (f := (CEf E)) (hrow p0 hk).2
        refine va_astq hx hb hK hP hD hS 7 3 k_2 1 rfl rfl hk_2 rfl (cx_in0 (by omega)) dX0_use_39 (fun H locs hP hD hS => ?_)
        rw [show va_up (shf rs p0 0) (0 : Int32).toNatClampNeg (some (rowA rs p0)) = useRs rs p0 from by rw [sb_cl0, ← (hrow p0 hk).1]; exact shf_end rs p0] at hP hD
        have hP : va_P (dC, dI) vwCl (CWl a k LP N L f1 f2 f3 f4 f5 f6 f7 f8 rd f10 f11 f12 n f14 lf wd ho ro pa (useRs rs p0) E) H := hP
        have hD : va_D A (CWl a k LP N L f1 f2 f3 f4 f5 f6 f7 f8 rd f10 f11 f12 n f14 lf wd ho ro pa (useRs rs p0) E) := hD
        exact W.vret hx hb hr (fun t ht hW => ⟨⟨useRs rs p0, rfl, rfl, by rw [ht]; exact hP, va_K.moved hW.alike hK, hD⟩, hS.F ht⟩) hS.2.2 dX0_use_40
      · exact absurd (show nI 0 ≤ 0 by decide) c_10_0
    | succ i ih =>
      intro hi H locs hP hD hS ls hl
      refine lv_iload_n hx hb dX0_use_9 rfl (lv_at hl 0 rfl) ?_
      refine lv_if_le (tgt := 33) hx hb dX0_use_10 (by decide) (fun c_10_2 => ?_) (fun c_10_2 => ?_)
      · exact absurd c_10_2 (nI_nle (by omega) (by omega))
      · refine lv_aload_n hx hb dX0_use_13 rfl (lv_at hl 2 rfl) ?_
        refine va_get (D := (dC, dI)) (ci := 0) (v := .ref (a 7)) (C := RX0) (T := TX0) (N := 3) hx hb hta inA_X0 hown hK hP 6 rfl rfl 0 (by decide) (hta _ aw_159) (fun _ h9 => h9) rfl dX0_use_14 ?_
        refine lv_iload_n hx hb dX0_use_17 rfl (lv_at hl 0 rfl) ?_
        refine lv_aload_n hx hb dX0_use_18 rfl (lv_at hl 2 rfl) ?_
        refine va_get (D := (dC, dI)) (ci := 0) (v := .ref (a 7)) (C := RX0) (T := TX0) (N := 3) hx hb hta inA_X0 hown hK hP 6 rfl rfl 0 (by decide) (hta _ aw_159) (fun _ h9 => h9) rfl dX0_use_19 ?_
        refine lv_iload_n hx hb dX0_use_22 rfl (lv_at hl 0 rfl) ?_
        refine lv_iconst (v := 1) hx hb dX0_use_23 (by decide) ?_
        refine lv_isub hx hb dX0_use_24 ?_
        rw [show (nI (i + 1)) - (1 : Int32) = nI i from nI_pred i]
        refine cx_aald hx hb hK hP 7 3 rfl rfl (vp_in_nI (by omega) (by omega)) (by rw [nI_clamp (by omega), shf_low rs (by omega)]; exact (hrow i (by omega)).1) dX0_use_25 ?_
        obtain ⟨k_4, hk_4⟩ := va_pl_get (X := (CWx a k N L f1 f2 f3 f4 f5 f6 f7 f8 rd f10 f11 f12 n f14 lf wd ho ro pa (shf rs p0 (i + 1)))) (f := (CEf E)) (hrow i (by omega)).2
        refine va_astq hx hb hK hP hD hS 7 3 k_4 1 rfl rfl hk_4 rfl (vp_in_nI (by omega) (by omega)) dX0_use_26 (fun H locs hP hD hS => ?_)
        rw [nI_clamp (show (i + 1) < 2 ^ 31 by omega)] at hP hD
        rw [show va_up (shf rs p0 (i + 1)) (i + 1) (some (rowA rs i)) = shf rs p0 i from by rw [← (hrow i (by omega)).1]; exact shf_step rs (by omega)] at hP hD
        have hP : va_P (dC, dI) vwCl (CWl a k LP N L f1 f2 f3 f4 f5 f6 f7 f8 rd f10 f11 f12 n f14 lf wd ho ro pa (shf rs p0 i) E) H := hP
        have hD : va_D A (CWl a k LP N L f1 f2 f3 f4 f5 f6 f7 f8 rd f10 f11 f12 n f14 lf wd ho ro pa (shf rs p0 i) E) := hD
        refine lv_iinc (v := nI i) (lv' := [(3, .int (nI i)), (2, .ref (rowA rs p0)), (0, .ref (a 6)), (1, .int (nI p0))]) hx hb dX0_use_27 hl (k := 0) rfl (cx_dec i rfl) (by decide) rfl (fun ls hl => ?_)
        refine lv_goto (tgt := 9) hx hb dX0_use_30 (by decide) ?_
        exact ih (by omega) H locs hP hD hS ls (lv_sub hl [0, 1, 2, 3] rfl)
  refine lv_aload_n hx hb dX0_use_0 rfl (lv_at hl 0 rfl) ?_
  refine va_get (D := (dC, dI)) (ci := 0) (v := .ref (a 7)) (C := RX0) (T := TX0) (N := 3) hx hb hta inA_X0 hown hK hP 6 rfl rfl 0 (by decide) (hta _ aw_159) (fun _ h9 => h9) rfl dX0_use_1 ?_
  refine lv_iload_n hx hb dX0_use_4 rfl (lv_at hl 1 rfl) ?_
  refine cx_aald hx hb hK hP 7 3 rfl rfl (vp_in_nI (by omega) (by omega)) (by rw [nI_clamp (by omega)]; exact (hrow p0 hk).1) dX0_use_5 ?_
  refine lv_astore_n (lv' := [(2, .ref (rowA rs p0)), (0, .ref (a 6)), (1, .int (nI p0))]) hx hb dX0_use_6 rfl hl (by decide) rfl (fun ls hl => ?_)
  refine lv_iload_n hx hb dX0_use_7 rfl (lv_at hl 2 rfl) ?_
  refine lv_istore_n (lv' := [(3, .int (nI p0)), (2, .ref (rowA rs p0)), (0, .ref (a 6)), (1, .int (nI p0))]) hx hb dX0_use_8 rfl hl (by decide) rfl (fun ls hl => ?_)
  exact loop p0 (Nat.le_refl p0) s.heap [] (by rw [shf_self]; exact hP) (by rw [shf_self]; exact hD) hS ls (lv_sub hl [0, 1, 2, 3] rfl)
end
section
/-- Entries.rowFor: the forerunner's row, from row i on, j rows left -/
def mRowL (rs : Nat → Option Nat) (E : Nat → Nat → Int32) (p0 p1 p2 : Int32) : Nat → Nat → Option Nat
  | 0, _ => none
  | j + 1, i => if E 1 (rowA rs i) = p2 then (if mX1_standsFor E (rowA rs i) p0 p1 = 0 then mRowL rs E p0 p1 p2 j (i + 1) else some i) else mRowL rs E p0 p1 p2 j (i + 1)
/-- the row, the entries kept behind it, those that went -/
def mRow (N n : Nat) (f14 : Int32) : Option Nat → Nat × Nat × Int32
  | some i => (i, n, f14)
  | none => if N ≤ n then (n - 1, n, f14 + (1 : Int32)) else (n, n + 1, f14)
theorem mRowL_lt (rs : Nat → Option Nat) (E : Nat → Nat → Int32) (p0 p1 p2 : Int32) : ∀ (j i x : Nat), mRowL rs E p0 p1 p2 j i = some x → x < i + j
  | 0, i, x, h => by cases h
  | j + 1, i, x, h => by
    unfold mRowL at h
    have ih := mRowL_lt rs E p0 p1 p2 j (i + 1) x
    split at h
    · split at h
      · have := ih h; omega
      · cases h; omega
    · have := ih h; omega
theorem mRow_lt {N n x n' : Nat} {f14 f' : Int32} {o : Option Nat} (h : (x, n', f') = mRow N n f14 o) (ho : ∀ i, o = some i → i < n) (hn : n ≤ N) (h0 : 0 < N) : x < N ∧ n' ≤ N ∧ x < n' := by
  cases o with
  | some i =>
    have := ho i rfl
    cases h
    omega
  | none =>
    have h' : (x, n', f') = if N ≤ n then (n - 1, n, f14 + (1 : Int32)) else (n, n + 1, f14) := h
    by_cases hc : N ≤ n
    · rw [if_pos hc] at h'
      cases h'
      omega
    · rw [if_neg hc] at h'
      cases h'
      omega

set_option maxHeartbeats 4000000 in
set_option maxRecDepth 100000 in
theorem c_X0_rowFor (l : Launch) (dC : Nat → ClassId) (dI : Nat → Nat → Nat) (a : Nat → Nat) (k : Nat → ClassId) (LP : List Nat) (N : Nat) (L : Nat) (f1 f2 f3 f4 f5 f6 f7 f8 : Int32) (rd : Nat) (f10 f11 f12 : Int32) (n : Nat) (f14 : Int32) (lf : Int64) (wd : Nat → Int64) (ho ro pa : Nat → Int32) (rs : Nat → Option Nat) (E : Nat → Nat → Int32)  (sz : Nat) (p0 : Int32) (p1 : Int32) (p2 : Int32) (hn : n ≤ N) (h0N : 0 < N) (hN32 : N ≤ 32) (hrow : ∀ i, i < N → rs i = some (rowA rs i) ∧ rowA rs i ∈ LP) : Met l yX0_rowFor (wX0_rowFor :: AW) ({ frames := 2, cells := 0, slots := 0, locals := 42 }) (va_Pc [.ref (a 6), .int p0, .int p1, .int p2] (CPrQ dC dI (CWl a k LP N L f1 f2 f3 f4 f5 f6 f7 f8 rd f10 f11 f12 n f14 lf wd ho ro pa rs E) [(k 0, .long), (k 1, .int), (k 2, .int), (k 3, .object "PageRows$Entry"), (k 4, .int)] sz)) (va_Qi (fun (r : Int32) (u : Nat × Int32) => ∃ x : Nat, r = nI x ∧ (x, u) = mRow N n f14 (mRowL rs E p0 p1 p2 n 0)) (fun (u : Nat × Int32) (t : State) => match u with | (n', f14') => va_P (dC, dI) vwCl (CWl a k LP N L f1 f2 f3 f4 f5 f6 f7 f8 rd f10 f11 f12 n' f14' lf wd ho ro pa rs E) t.heap ∧ va_K (dC, dI) vwCl [(k 0, .long), (k 1, .int), (k 2, .int), (k 3, .object "PageRows$Entry"), (k 4, .int)] t ∧ va_D (va_A (CWl a k LP N L f1 f2 f3 f4 f5 f6 f7 f8 rd f10 f11 f12 n f14 lf wd ho ro pa rs E) sz) (CWl a k LP N L f1 f2 f3 f4 f5 f6 f7 f8 rd f10 f11 f12 n' f14' lf wd ho ro pa rs E)) (va_A (CWl a k LP N L f1 f2 f3 f4 f5 f6 f7 f8 rd f10 f11 f12 n f14 lf wd ho ro pa rs E) sz)) 0 0 (va_A (CWl a k LP N L f1 f2 f3 f4 f5 f6 f7 f8 rd f10 f11 f12 n f14 lf wd ho ro pa rs E) sz) := by
  refine cx_of (cc := cX0_rowFor) (maxL := 5) (ret := some .int) (by decide) rfl (Nat.le_of_ble_eq_true rfl) ?_
  intro p e s m below meth c ls hx hb hr hts hown hlocks hml hnm hl hB
  have hta : ∀ w ∈ AW, w.before [.ref (a 6), .int p0, .int p1, .int p2].toArray s = true := fun w h => hts w (List.mem_cons_of_mem _ h)
  have hl : lv_has ls 5 [(0, .ref (a 6)), (1, .int p0), (2, .int p1), (3, .int p2)] := hl
  have hown : s.vm.findClass RX0 = some m.cls := hown
  obtain ⟨rfl, ⟨hP, hK, hN⟩, hD0⟩ := hB
  have hD := hD0.self (sz := s.heap.size)
  generalize hAe : va_A (CWl a k LP N L f1 f2 f3 f4 f5 f6 f7 f8 rd f10 f11 f12 n f14 lf wd ho ro pa rs E) s.heap.size = A at hD ⊢
  have hA : ∀ q : Nat, s.heap.size ≤ q → A q := fun q h => by rw [← hAe]; exact Or.inr h
  have hS : va_S A s.heap s.heap [] := va_S.rf
  have loop : ∀ (j i : Nat), i + j = n → mRowL rs E p0 p1 p2 n 0 = mRowL rs E p0 p1 p2 j i → ∀ (ls : Array Slot), lv_has ls 5 [(4, .int (nI i)), (0, .ref (a 6)), (1, .int p0), (2, .int p1), (3, .int p2)] → W p l e ({ frames := 2, cells := 0, slots := 0, locals := 42 }) s m [.ref (a 6), .int p0, .int p1, .int p2].toArray below meth c s.heap [] 0 0 (MQ below (va_Qi (fun (r : Int32) (u : Nat × Int32) => ∃ x : Nat, r = nI x ∧ (x, u) = mRow N n f14 (mRowL rs E p0 p1 p2 n 0)) (fun (u : Nat × Int32) (t : State) => match u with | (n', f14') => va_P (dC, dI) vwCl (CWl a k LP N L f1 f2 f3 f4 f5 f6 f7 f8 rd f10 f11 f12 n' f14' lf wd ho ro pa rs E) t.heap ∧ va_K (dC, dI) vwCl [(k 0, .long), (k 1, .int), (k 2, .int), (k 3, .object "PageRows$Entry"), (k 4, .int)] t ∧ va_D A (CWl a k LP N L f1 f2 f3 f4 f5 f6 f7 f8 rd f10 f11 f12 n' f14' lf wd ho ro pa rs E)) A) [.ref (a 6), .int p0, .int p1, .int p2].toArray s 0 0 A) (F0 m 3 ls []) := by
    intro j
    induction j with
    | zero =>
      intro i hi hm ls hl
      refine lv_iload hx hb dX0_rowFor_3 (lv_at hl 0 rfl) ?_
      refine lv_aload_n hx hb dX0_rowFor_5 rfl (lv_at hl 1 rfl) ?_
      refine va_get (D := (dC, dI)) (ci := 0) (v := .int (nI n)) (C := RX0) (T := TX0) (N := 3) hx hb hta inA_X0 hown hK hP 6 rfl rfl 1 (by decide) (hta _ aw_161) (fun _ h9 => h9) rfl dX0_rowFor_6 ?_
      refine lv_icmp_ge (tgt := 50) hx hb dX0_rowFor_9 (by decide) (fun c_9_0 => ?_) (fun c_9_0 => ?_)
      · refine lv_aload_n hx hb dX0_rowFor_50 rfl (lv_at hl 1 rfl) ?_
        refine va_get (D := (dC, dI)) (ci := 0) (v := .int (nI n)) (C := RX0) (T := TX0) (N := 3) hx hb hta inA_X0 hown hK hP 6 rfl rfl 1 (by decide) (hta _ aw_161) (fun _ h9 => h9) rfl dX0_rowFor_51 ?_
        refine lv_aload_n hx hb dX0_rowFor_54 rfl (lv_at hl 1 rfl) ?_
        refine va_get (D := (dC, dI)) (ci := 0) (v := .ref (a 7)) (C := RX0) (T := TX0) (N := 3) hx hb hta inA_X0 hown hK hP 6 rfl rfl 0 (by decide) (hta _ aw_159) (fun _ h9 => h9) rfl dX0_rowFor_55 ?_
        refine va_alen (v := nI N) hx hb hK hP 7 3 rfl rfl rfl dX0_rowFor_58 ?_
        refine lv_icmp_ge (tgt := 75) hx hb dX0_rowFor_59 (by decide) (fun c_59_1 => ?_) (fun c_59_1 => ?_)
        · have hNn : N ≤ n := by rw [nI_leI (by omega) (by omega)] at c_59_1; exact c_59_1
          refine lv_aload_n hx hb dX0_rowFor_75 rfl (lv_at hl 1 rfl) ?_
          refine lv_dup hx hb dX0_rowFor_76 rfl ?_
          refine va_get (D := (dC, dI)) (ci := 0) (v := .int f14) (C := RX0) (T := TX0) (N := 3) hx hb hta inA_X0 hown hK hP 6 rfl rfl 2 (by decide) (hta _ aw_163) (fun _ h9 => h9) rfl dX0_rowFor_77 ?_
          refine lv_iconst (v := 1) hx hb dX0_rowFor_80 (by decide) ?_
          refine lv_iadd hx hb dX0_rowFor_81 ?_
          refine va_put (D := (dC, dI)) (ci := 0) (v := .int (f14 + (1 : Int32))) (ty := .int) (C := RX0) (T := TX0) (N := 3) hx hb hta inA_X0 tyX0 tyX0_ok nmX0 hown hK hP hD hS 6 rfl rfl 2 (by decide) (hta _ aw_163) (fun _ h9 => h9) rfl (by decide +kernel) rfl rfl (Nat.le_of_ble_eq_true rfl) dX0_rowFor_82 (fun H locs hP hD hS => ?_)
          have hP : va_P (dC, dI) vwCl (CWl a k LP N L f1 f2 f3 f4 f5 f6 f7 f8 rd f10 f11 f12 n (f14 + (1 : Int32)) lf wd ho ro pa rs E) H := hP
          have hD : va_D A (CWl a k LP N L f1 f2 f3 f4 f5 f6 f7 f8 rd f10 f11 f12 n (f14 + (1 : Int32)) lf wd ho ro pa rs E) := hD
          refine lv_aload_n hx hb dX0_rowFor_85 rfl (lv_at hl 1 rfl) ?_
          refine va_get (D := (dC, dI)) (ci := 0) (v := .int (nI n)) (C := RX0) (T := TX0) (N := 3) hx hb hta inA_X0 hown hK hP 6 rfl rfl 1 (by decide) (hta _ aw_161) (fun _ h9 => h9) rfl dX0_rowFor_86 ?_
          refine lv_iconst (v := 1) hx hb dX0_rowFor_89 (by decide) ?_
          refine lv_isub hx hb dX0_rowFor_90 ?_
          rw [show (nI n) - (1 : Int32) = nI (n - 1) from pk_sub (show 1 ≤ n by omega)]
          exact W.iret (v := nI (n - 1)) hx hb hr (fun t ht hW => ⟨⟨nI (n - 1), (n, f14 + (1 : Int32)), rfl, ⟨(n - 1), rfl, (by rw [hm]; show _ = mRow N n f14 none; unfold mRow; rw [if_pos (show N ≤ n from by rw [nI_leI (by omega) (by omega)] at c_59_1; exact c_59_1)])⟩, by rw [ht]; exact hP, va_K.moved hW.alike hK, hD⟩, hS.F ht⟩) hS.2.2 dX0_rowFor_91
        · refine lv_aload_n hx hb dX0_rowFor_62 rfl (lv_at hl 1 rfl) ?_
          refine lv_dup hx hb dX0_rowFor_63 rfl ?_
          refine va_get (D := (dC, dI)) (ci := 0) (v := .int (nI n)) (C := RX0) (T := TX0) (N := 3) hx hb hta inA_X0 hown hK hP 6 rfl rfl 1 (by decide) (hta _ aw_161) (fun _ h9 => h9) rfl dX0_rowFor_64 ?_
          refine lv_iconst (v := 1) hx hb dX0_rowFor_67 (by decide) ?_
          refine lv_iadd hx hb dX0_rowFor_68 ?_
          rw [show (nI n) + (1 : Int32) = nI (n + 1) from nI_add n 1]
          refine va_put (D := (dC, dI)) (ci := 0) (v := .int (nI (n + 1))) (ty := .int) (C := RX0) (T := TX0) (N := 3) hx hb hta inA_X0 tyX0 tyX0_ok nmX0 hown hK hP hD hS 6 rfl rfl 1 (by decide) (hta _ aw_161) (fun _ h9 => h9) rfl (by decide +kernel) rfl rfl (Nat.le_of_ble_eq_true rfl) dX0_rowFor_69 (fun H locs hP hD hS => ?_)
          have hP : va_P (dC, dI) vwCl (CWl a k LP N L f1 f2 f3 f4 f5 f6 f7 f8 rd f10 f11 f12 (n + 1) f14 lf wd ho ro pa rs E) H := hP
          have hD : va_D A (CWl a k LP N L f1 f2 f3 f4 f5 f6 f7 f8 rd f10 f11 f12 (n + 1) f14 lf wd ho ro pa rs E) := hD
          refine lv_goto (tgt := 85) hx hb dX0_rowFor_72 (by decide) ?_
          refine lv_aload_n hx hb dX0_rowFor_85 rfl (lv_at hl 1 rfl) ?_
          refine va_get (D := (dC, dI)) (ci := 0) (v := .int (nI (n + 1))) (C := RX0) (T := TX0) (N := 3) hx hb hta inA_X0 hown hK hP 6 rfl rfl 1 (by decide) (hta _ aw_161) (fun _ h9 => h9) rfl dX0_rowFor_86 ?_
          refine lv_iconst (v := 1) hx hb dX0_rowFor_89 (by decide) ?_
          refine lv_isub hx hb dX0_rowFor_90 ?_
          rw [show (nI (n + 1)) - (1 : Int32) = nI n from nI_pred n]
          exact W.iret (v := nI n) hx hb hr (fun t ht hW => ⟨⟨nI n, ((n + 1), f14), rfl, ⟨n, rfl, (by rw [hm]; show _ = mRow N n f14 none; unfold mRow; rw [if_neg (show ¬ N ≤ n from by rw [nI_leI (by omega) (by omega)] at c_59_1; exact c_59_1)])⟩, by rw [ht]; exact hP, va_K.moved hW.alike hK, hD⟩, hS.F ht⟩) hS.2.2 dX0_rowFor_91
      · exact absurd (nI_le (by omega) (by omega)) c_9_0
    | succ j ih =>
      intro i hi hm ls hl
      refine lv_iload hx hb dX0_rowFor_3 (lv_at hl 0 rfl) ?_
      refine lv_aload_n hx hb dX0_rowFor_5 rfl (lv_at hl 1 rfl) ?_
      refine va_get (D := (dC, dI)) (ci := 0) (v := .int (nI n)) (C := RX0) (T := TX0) (N := 3) hx hb hta inA_X0 hown hK hP 6 rfl rfl 1 (by decide) (hta _ aw_161) (fun _ h9 => h9) rfl dX0_rowFor_6 ?_
      refine lv_icmp_ge (tgt := 50) hx hb dX0_rowFor_9 (by decide) (fun c_9_2 => ?_) (fun c_9_2 => ?_)
      · exact absurd c_9_2 (nI_ge (by omega) (by omega))
      · refine lv_aload_n hx hb dX0_rowFor_12 rfl (lv_at hl 1 rfl) ?_
        refine va_get (D := (dC, dI)) (ci := 0) (v := .ref (a 7)) (C := RX0) (T := TX0) (N := 3) hx hb hta inA_X0 hown hK hP 6 rfl rfl 0 (by decide) (hta _ aw_159) (fun _ h9 => h9) rfl dX0_rowFor_13 ?_
        refine lv_iload hx hb dX0_rowFor_16 (lv_at hl 0 rfl) ?_
        refine cx_aald hx hb hK hP 7 3 rfl rfl (vp_in_nI (by omega) (by omega)) (by rw [nI_clamp (by omega)]; exact (hrow i (by omega)).1) dX0_rowFor_18 ?_
        obtain ⟨k_4, hk_4⟩ := va_pl_get (X := (CWx a k N L f1 f2 f3 f4 f5 f6 f7 f8 rd f10 f11 f12 n f14 lf wd ho ro pa rs)) (f := (CEf E)) (hrow i (by omega)).2
        refine va_getN (D := (dC, dI)) (ci := 1) (v := .int (E 1 (rowA rs i))) (C := RX1) (T := TX1) (N := 6) hx hb hta inA_X1 hown hK hP k_4 hk_4 rfl 1 (by decide) (hN.nf 11 rfl) (fun _ h9 => h9) rfl dX0_rowFor_19 ?_
        refine lv_iload_n hx hb dX0_rowFor_22 rfl (lv_at hl 4 rfl) ?_
        refine lv_icmp_ne (tgt := 44) hx hb dX0_rowFor_23 (by decide) (fun c_23_4 => ?_) (fun c_23_4 => ?_)
        · refine lv_iinc (v := nI (i + 1)) (lv' := [(4, .int (nI (i + 1))), (0, .ref (a 6)), (1, .int p0), (2, .int p1), (3, .int p2)]) hx hb dX0_rowFor_44 hl (k := 0) rfl (cx_inc i 1 rfl) (by decide) rfl (fun ls hl => ?_)
          refine lv_goto (tgt := 3) hx hb dX0_rowFor_47 (by decide) ?_
          exact ih (i + 1) (by omega) (by rw [hm, mRowL, if_neg c_23_4]) ls (lv_sub hl [0, 1, 2, 3, 4] rfl)
        · refine lv_aload_n hx hb dX0_rowFor_26 rfl (lv_at hl 1 rfl) ?_
          refine va_get (D := (dC, dI)) (ci := 0) (v := .ref (a 7)) (C := RX0) (T := TX0) (N := 3) hx hb hta inA_X0 hown hK hP 6 rfl rfl 0 (by decide) (hta _ aw_159) (fun _ h9 => h9) rfl dX0_rowFor_27 ?_
          refine lv_iload hx hb dX0_rowFor_30 (lv_at hl 0 rfl) ?_
          refine cx_aald hx hb hK hP 7 3 rfl rfl (vp_in_nI (by omega) (by omega)) (by rw [nI_clamp (by omega)]; exact (hrow i (by omega)).1) dX0_rowFor_32 ?_
          refine lv_iload_n hx hb dX0_rowFor_33 rfl (lv_at hl 2 rfl) ?_
          refine lv_iload_n hx hb dX0_rowFor_34 rfl (lv_at hl 3 rfl) ?_
          refine cx_callSi (va_runVN (As := [.int p0, .int p1]) (rest := []) ⟨hx, hb, hml, hown, hta⟩ (c_X1_standsFor l dC dI a k LP N L f1 f2 f3 f4 f5 f6 f7 f8 rd f10 f11 f12 n f14 lf wd ho ro pa rs E (rowA rs i) ((hrow i (by omega)).2) p0 p1) ⟨va_cnB 2 hta (gC aw_369) rfl rfl rfl (hN.nm 5 rfl) (hta _ aw_42) (by decide +kernel) ⟨Nat.le_of_ble_eq_true rfl, Nat.le_of_ble_eq_true rfl⟩, (hta _ aw_368), (hta _ aw_2)⟩ (cx_preVS hK hP hN (cx_recvP (ci := 1) hK hP (hrow i (by omega)).2 rfl rfl)) rfl rfl hl.1 rfl (lv_room (Nat.le_of_ble_eq_true rfl)) dX0_rowFor_35 ⟨Nat.le_of_ble_eq_true rfl, Nat.le_of_ble_eq_true rfl⟩) (fun r hw_6 => ?_)
          subst hw_6
          refine lv_if_eq (tgt := 44) hx hb dX0_rowFor_38 (by decide) (fun c_38_6 => ?_) (fun c_38_6 => ?_)
          · refine lv_iinc (v := nI (i + 1)) (lv' := [(4, .int (nI (i + 1))), (0, .ref (a 6)), (1, .int p0), (2, .int p1), (3, .int p2)]) hx hb dX0_rowFor_44 hl (k := 0) rfl (cx_inc i 1 rfl) (by decide) rfl (fun ls hl => ?_)
            refine lv_goto (tgt := 3) hx hb dX0_rowFor_47 (by decide) ?_
            exact ih (i + 1) (by omega) (by rw [hm, mRowL, if_pos c_23_4, if_pos c_38_6]) ls (lv_sub hl [0, 1, 2, 3, 4] rfl)
          · refine lv_iload hx hb dX0_rowFor_41 (lv_at hl 0 rfl) ?_
            exact W.iret (v := nI i) hx hb hr (fun t ht hW => ⟨⟨nI i, (n, f14), rfl, ⟨i, rfl, (by rw [hm, mRowL, if_pos c_23_4, if_neg c_38_6]; rfl)⟩, by rw [ht]; exact hP, va_K.moved hW.alike hK, hD⟩, hS.F ht⟩) hS.2.2 dX0_rowFor_43
  refine lv_iconst (v := 0) hx hb dX0_rowFor_0 (by decide) ?_
  refine lv_istore (lv' := [(4, .int (0 : Int32)), (0, .ref (a 6)), (1, .int p0), (2, .int p1), (3, .int p2)]) hx hb dX0_rowFor_1 hl (by decide) rfl (fun ls hl => ?_)
  exact loop n 0 (by omega) rfl ls (lv_sub hl [0, 1, 2, 3, 4] rfl)
end
section
/-- PageRows$Entries.keep -/
def mX0_keep (N : Nat) (f10 : Int32) (n : Nat) (f14 : Int32) (lf : Int64) (rs : Nat → Option Nat) (E : Nat → Nat → Int32) (p0 : Int32) (p1 : Int32) : Nat × Int32 × (Nat → Option Nat) × (Nat → Nat → Int32) :=
  match mRow N n f14 (mRowL rs E p0 p1 f10 n 0) with
  | (x_1, n_1, f14_1) =>
    if (lg_cmp (lf &&& (128 : Int64)) (0 : Int64)) = 0 then
      match useRs rs x_1 with
      | rs_6 =>
        (n_1, f14_1, rs_6, setE (setE (setE (setE (setE (setE E 0 (rowA rs x_1) p0) 1 (rowA rs x_1) f10) 2 (rowA rs x_1) (jushr p1 (mX4_bitsBelow f10))) 3 (rowA rs x_1) (mX4_frameOf lf)) 4 (rowA rs x_1) (mX4_rightsOf lf)) 5 (rowA rs x_1) (0 : Int32))
    else
      match useRs rs x_1 with
      | rs_7 =>
        (n_1, f14_1, rs_7, setE (setE (setE (setE (setE (setE E 0 (rowA rs x_1) p0) 1 (rowA rs x_1) f10) 2 (rowA rs x_1) (jushr p1 (mX4_bitsBelow f10))) 3 (rowA rs x_1) (mX4_frameOf lf)) 4 (rowA rs x_1) (mX4_rightsOf lf)) 5 (rowA rs x_1) (1 : Int32))
set_option maxHeartbeats 4000000 in
set_option maxRecDepth 100000 in
theorem c_X0_keep (l : Launch) (dC : Nat → ClassId) (dI : Nat → Nat → Nat) (a : Nat → Nat) (k : Nat → ClassId) (LP : List Nat) (N : Nat) (L : Nat) (f1 f2 f3 f4 f5 f6 f7 f8 : Int32) (rd : Nat) (f10 f11 f12 : Int32) (n : Nat) (f14 : Int32) (lf : Int64) (wd : Nat → Int64) (ho ro pa : Nat → Int32) (rs : Nat → Option Nat) (E : Nat → Nat → Int32)  (sz : Nat) (p0 : Int32) (p1 : Int32) (hn : n ≤ N) (h0N : 0 < N) (hN32 : N ≤ 32) (hrow : ∀ i, i < N → rs i = some (rowA rs i) ∧ rowA rs i ∈ LP) : Met l yX0_keep (wX0_keep :: AW) ({ frames := 3, cells := 0, slots := 0, locals := 66 }) (va_Pc [.ref (a 6), .int p0, .int p1, .ref (a 4)] (CPrQ dC dI (CWl a k LP N L f1 f2 f3 f4 f5 f6 f7 f8 rd f10 f11 f12 n f14 lf wd ho ro pa rs E) [(k 0, .long), (k 1, .int), (k 2, .int), (k 3, .object "PageRows$Entry"), (k 4, .int)] sz)) (va_Qv (fun (u : Nat × Int32 × (Nat → Option Nat) × (Nat → Nat → Int32)) => u = mX0_keep N f10 n f14 lf rs E p0 p1) (fun (u : Nat × Int32 × (Nat → Option Nat) × (Nat → Nat → Int32)) (t : State) => match u with | (n', f14', rs', E') => va_P (dC, dI) vwCl (CWl a k LP N L f1 f2 f3 f4 f5 f6 f7 f8 rd f10 f11 f12 n' f14' lf wd ho ro pa rs' E') t.heap ∧ va_K (dC, dI) vwCl [(k 0, .long), (k 1, .int), (k 2, .int), (k 3, .object "PageRows$Entry"), (k 4, .int)] t ∧ va_D (va_A (CWl a k LP N L f1 f2 f3 f4 f5 f6 f7 f8 rd f10 f11 f12 n f14 lf wd ho ro pa rs E) sz) (CWl a k LP N L f1 f2 f3 f4 f5 f6 f7 f8 rd f10 f11 f12 n' f14' lf wd ho ro pa rs' E')) (va_A (CWl a k LP N L f1 f2 f3 f4 f5 f6 f7 f8 rd f10 f11 f12 n f14 lf wd ho ro pa rs E) sz)) 0 0 (va_A (CWl a k LP N L f1 f2 f3 f4 f5 f6 f7 f8 rd f10 f11 f12 n f14 lf wd ho ro pa rs E) sz) := by
  refine cx_of (cc := cX0_keep) (maxL := 6) (ret := none) (by decide) rfl (Nat.le_of_ble_eq_true rfl) ?_
  intro p e s m below meth c ls hx hb hr hts hown hlocks hml hnm hl hB
  have hta : ∀ w ∈ AW, w.before [.ref (a 6), .int p0, .int p1, .ref (a 4)].toArray s = true := fun w h => hts w (List.mem_cons_of_mem _ h)
  have hl : lv_has ls 6 [(0, .ref (a 6)), (1, .int p0), (2, .int p1), (3, .ref (a 4))] := hl
  have hown : s.vm.findClass RX0 = some m.cls := hown
  obtain ⟨rfl, ⟨hP, hK, hN⟩, hD0⟩ := hB
  have hD := hD0.self (sz := s.heap.size)
  generalize hAe : va_A (CWl a k LP N L f1 f2 f3 f4 f5 f6 f7 f8 rd f10 f11 f12 n f14 lf wd ho ro pa rs E) s.heap.size = A at hD ⊢
  have hA : ∀ q : Nat, s.heap.size ≤ q → A q := fun q h => by rw [← hAe]; exact Or.inr h
  have hS : va_S A s.heap s.heap [] := va_S.rf
  refine lv_aload_n hx hb dX0_keep_0 rfl (lv_at hl 0 rfl) ?_
  refine lv_iload_n hx hb dX0_keep_1 rfl (lv_at hl 1 rfl) ?_
  refine lv_iload_n hx hb dX0_keep_2 rfl (lv_at hl 2 rfl) ?_
  refine lv_aload_n hx hb dX0_keep_3 rfl (lv_at hl 3 rfl) ?_
  refine va_getN (D := (dC, dI)) (ci := 3) (v := .int f10) (C := RX3) (T := TX3) (N := 8) hx hb hta inA_X3 hown hK hP 4 rfl rfl 5 (by decide) (hN.nf 6 rfl) (fun _ h9 => h9) rfl dX0_keep_4 ?_
  have hFc : ∀ q, va_A (CWl a k LP N L f1 f2 f3 f4 f5 f6 f7 f8 rd f10 f11 f12 n f14 lf wd ho ro pa rs E) s.heap.size q → A q := cx_free hD hS hA
  refine va_calli (va_runV (As := [.int p0, .int p1, .int f10]) (rest := []) ⟨hx, hb, hml, hown, hta⟩ (c_X0_rowFor l dC dI a k LP N L f1 f2 f3 f4 f5 f6 f7 f8 rd f10 f11 f12 n f14 lf wd ho ro pa rs E s.heap.size p0 p1 f10 hn h0N hN32 hrow) (cwV 3 hta (gV aw_436 aw_438 aw_13 aw_41 aw_439) rfl rfl rfl (by decide +kernel) ⟨Nat.le_of_ble_eq_true rfl, Nat.le_of_ble_eq_true rfl⟩) (cx_preVQ hK hP hN (va_recv hK hP (ci := 0) (q0 := 6) rfl rfl) hD) rfl rfl hl.1 rfl (lv_room (Nat.le_of_ble_eq_true rfl)) dX0_keep_7 ⟨Nat.le_of_ble_eq_true rfl, Nat.le_of_ble_eq_true rfl⟩) hS (fun q _ h => hFc q h) hFc (fun r_1 u t9 H1 locs ht hvm hw_1 hB hz1 hk1 hS => ?_)
  obtain ⟨n_1, f14_1⟩ := u
  obtain ⟨x_1, rfl, hw_1⟩ := hw_1
  obtain ⟨hP, hK1, hD1⟩ := hB
  rw [ht] at hP
  have hD := hD1.weaken (fun _ _ _ h => hFc _ h)
  clear hFc hz1 hk1 hK1 hD1 ht hvm
  generalize H1 = H at hP hS ⊢
  have hP : va_P (dC, dI) vwCl (CWl a k LP N L f1 f2 f3 f4 f5 f6 f7 f8 rd f10 f11 f12 n_1 f14_1 lf wd ho ro pa rs E) H := hP
  have hD : va_D A (CWl a k LP N L f1 f2 f3 f4 f5 f6 f7 f8 rd f10 f11 f12 n_1 f14_1 lf wd ho ro pa rs E) := hD
  obtain ⟨hxN_1, hnN_1, hxn_1⟩ := mRow_lt hw_1 (fun i hi => by have := mRowL_lt _ _ _ _ _ _ _ _ hi; omega) hn h0N
  refine lv_istore (lv' := [(4, .int (nI x_1)), (0, .ref (a 6)), (1, .int p0), (2, .int p1), (3, .ref (a 4))]) hx hb dX0_keep_10 hl (by decide) rfl (fun ls hl => ?_)
  refine lv_aload_n hx hb dX0_keep_12 rfl (lv_at hl 1 rfl) ?_
  refine va_get (D := (dC, dI)) (ci := 0) (v := .ref (a 7)) (C := RX0) (T := TX0) (N := 3) hx hb hta inA_X0 hown hK hP 6 rfl rfl 0 (by decide) (hta _ aw_159) (fun _ h9 => h9) rfl dX0_keep_13 ?_
  refine lv_iload hx hb dX0_keep_16 (lv_at hl 0 rfl) ?_
  refine cx_aald hx hb hK hP 7 3 rfl rfl (vp_in_nI (by omega) (by omega)) (by rw [nI_clamp (by omega)]; exact (hrow x_1 (by omega)).1) dX0_keep_18 ?_
  refine lv_astore (lv' := [(5, .ref (rowA rs x_1)), (4, .int (nI x_1)), (0, .ref (a 6)), (1, .int p0), (2, .int p1), (3, .ref (a 4))]) hx hb dX0_keep_19 hl (by decide) rfl (fun ls hl => ?_)
  refine lv_aload hx hb dX0_keep_21 (lv_at hl 0 rfl) ?_
  refine lv_iload_n hx hb dX0_keep_23 rfl (lv_at hl 3 rfl) ?_
  refine cx_putEN (D := (dC, dI)) (v := p0) (ty := .int) hx hb hta inA_X1 hown hK hP hD hS (hrow x_1 (by omega)).2 0 (by decide) (hN.nf 9 rfl) (fun _ h9 => h9) rfl (by decide +kernel) rfl rfl dX0_keep_24 (fun H locs hP hD hS => ?_)
  have hP : va_P (dC, dI) vwCl (CWl a k LP N L f1 f2 f3 f4 f5 f6 f7 f8 rd f10 f11 f12 n_1 f14_1 lf wd ho ro pa rs (setE E 0 (rowA rs x_1) p0)) H := hP
  have hD : va_D A (CWl a k LP N L f1 f2 f3 f4 f5 f6 f7 f8 rd f10 f11 f12 n_1 f14_1 lf wd ho ro pa rs (setE E 0 (rowA rs x_1) p0)) := hD
  refine lv_aload hx hb dX0_keep_27 (lv_at hl 0 rfl) ?_
  refine lv_aload_n hx hb dX0_keep_29 rfl (lv_at hl 5 rfl) ?_
  refine va_getN (D := (dC, dI)) (ci := 3) (v := .int f10) (C := RX3) (T := TX3) (N := 8) hx hb hta inA_X3 hown hK hP 4 rfl rfl 5 (by decide) (hN.nf 6 rfl) (fun _ h9 => h9) rfl dX0_keep_30 ?_
  refine cx_putEN (D := (dC, dI)) (v := f10) (ty := .int) hx hb hta inA_X1 hown hK hP hD hS (hrow x_1 (by omega)).2 1 (by decide) (hN.nf 11 rfl) (fun _ h9 => h9) rfl (by decide +kernel) rfl rfl dX0_keep_33 (fun H locs hP hD hS => ?_)
  have hP : va_P (dC, dI) vwCl (CWl a k LP N L f1 f2 f3 f4 f5 f6 f7 f8 rd f10 f11 f12 n_1 f14_1 lf wd ho ro pa rs (setE (setE E 0 (rowA rs x_1) p0) 1 (rowA rs x_1) f10)) H := hP
  have hD : va_D A (CWl a k LP N L f1 f2 f3 f4 f5 f6 f7 f8 rd f10 f11 f12 n_1 f14_1 lf wd ho ro pa rs (setE (setE E 0 (rowA rs x_1) p0) 1 (rowA rs x_1) f10)) := hD
  refine lv_aload hx hb dX0_keep_36 (lv_at hl 0 rfl) ?_
  refine lv_iload_n hx hb dX0_keep_38 rfl (lv_at hl 4 rfl) ?_
  refine lv_aload_n hx hb dX0_keep_39 rfl (lv_at hl 5 rfl) ?_
  refine va_getN (D := (dC, dI)) (ci := 3) (v := .int f10) (C := RX3) (T := TX3) (N := 8) hx hb hta inA_X3 hown hK hP 4 rfl rfl 5 (by decide) (hN.nf 6 rfl) (fun _ h9 => h9) rfl dX0_keep_40 ?_
  refine cx_callSi (va_runSN (As := [.int f10]) (rest := [.int p1, .ref (rowA rs x_1)]) ⟨hx, hb, hml, hown, hta⟩ (c_X4_bitsBelow l f10) ⟨va_cnB 1 hta (gC aw_372) rfl rfl rfl (hN.nm 17 rfl) (hta _ aw_38) (by decide +kernel) ⟨Nat.le_of_ble_eq_true rfl, Nat.le_of_ble_eq_true rfl⟩, (hta _ aw_371), trivial⟩ cx_pre0 rfl rfl hl.1 rfl (lv_room (Nat.le_of_ble_eq_true rfl)) dX0_keep_43 ⟨Nat.le_of_ble_eq_true rfl, Nat.le_of_ble_eq_true rfl⟩) (fun r hw_2 => ?_)
  subst hw_2
  refine lv_iushr (v := jushr p1 (mX4_bitsBelow f10)) hx hb dX0_keep_46 rfl ?_
  refine cx_putEN (D := (dC, dI)) (v := jushr p1 (mX4_bitsBelow f10)) (ty := .int) hx hb hta inA_X1 hown hK hP hD hS (hrow x_1 (by omega)).2 2 (by decide) (hN.nf 13 rfl) (fun _ h9 => h9) rfl (by decide +kernel) rfl rfl dX0_keep_47 (fun H locs hP hD hS => ?_)
  have hP : va_P (dC, dI) vwCl (CWl a k LP N L f1 f2 f3 f4 f5 f6 f7 f8 rd f10 f11 f12 n_1 f14_1 lf wd ho ro pa rs (setE (setE (setE E 0 (rowA rs x_1) p0) 1 (rowA rs x_1) f10) 2 (rowA rs x_1) (jushr p1 (mX4_bitsBelow f10)))) H := hP
  have hD : va_D A (CWl a k LP N L f1 f2 f3 f4 f5 f6 f7 f8 rd f10 f11 f12 n_1 f14_1 lf wd ho ro pa rs (setE (setE (setE E 0 (rowA rs x_1) p0) 1 (rowA rs x_1) f10) 2 (rowA rs x_1) (jushr p1 (mX4_bitsBelow f10)))) := hD
  refine lv_aload hx hb dX0_keep_50 (lv_at hl 0 rfl) ?_
  refine lv_aload_n hx hb dX0_keep_52 rfl (lv_at hl 5 rfl) ?_
  refine va_getN (D := (dC, dI)) (ci := 3) (v := .long lf) (C := RX3) (T := TX3) (N := 8) hx hb hta inA_X3 hown hK hP 4 rfl rfl 4 (by decide) (hN.nf 5 rfl) (fun _ h9 => h9) rfl dX0_keep_53 ?_
  refine cx_callSi (va_runSN (As := [.long lf]) (rest := [.ref (rowA rs x_1)]) ⟨hx, hb, hml, hown, hta⟩ (c_X4_frameOf l lf) ⟨va_cnB 1 hta (gC aw_409) rfl rfl rfl (hN.nm 18 rfl) (hta _ aw_38) (by decide +kernel) ⟨Nat.le_of_ble_eq_true rfl, Nat.le_of_ble_eq_true rfl⟩, (hta _ aw_408), trivial⟩ cx_pre0 rfl rfl hl.1 rfl (lv_room (Nat.le_of_ble_eq_true rfl)) dX0_keep_56 ⟨Nat.le_of_ble_eq_true rfl, Nat.le_of_ble_eq_true rfl⟩) (fun r hw_3 => ?_)
  subst hw_3
  refine cx_putEN (D := (dC, dI)) (v := mX4_frameOf lf) (ty := .int) hx hb hta inA_X1 hown hK hP hD hS (hrow x_1 (by omega)).2 3 (by decide) (hN.nf 15 rfl) (fun _ h9 => h9) rfl (by decide +kernel) rfl rfl dX0_keep_59 (fun H locs hP hD hS => ?_)
  have hP : va_P (dC, dI) vwCl (CWl a k LP N L f1 f2 f3 f4 f5 f6 f7 f8 rd f10 f11 f12 n_1 f14_1 lf wd ho ro pa rs (setE (setE (setE (setE E 0 (rowA rs x_1) p0) 1 (rowA rs x_1) f10) 2 (rowA rs x_1) (jushr p1 (mX4_bitsBelow f10))) 3 (rowA rs x_1) (mX4_frameOf lf))) H := hP
  have hD : va_D A (CWl a k LP N L f1 f2 f3 f4 f5 f6 f7 f8 rd f10 f11 f12 n_1 f14_1 lf wd ho ro pa rs (setE (setE (setE (setE E 0 (rowA rs x_1) p0) 1 (rowA rs x_1) f10) 2 (rowA rs x_1) (jushr p1 (mX4_bitsBelow f10))) 3 (rowA rs x_1) (mX4_frameOf lf))) := hD
  refine lv_aload hx hb dX0_keep_62 (lv_at hl 0 rfl) ?_
  refine lv_aload_n hx hb dX0_keep_64 rfl (lv_at hl 5 rfl) ?_
  refine va_getN (D := (dC, dI)) (ci := 3) (v := .long lf) (C := RX3) (T := TX3) (N := 8) hx hb hta inA_X3 hown hK hP 4 rfl rfl 4 (by decide) (hN.nf 5 rfl) (fun _ h9 => h9) rfl dX0_keep_65 ?_
  refine cx_callSi (va_runSN (As := [.long lf]) (rest := [.ref (rowA rs x_1)]) ⟨hx, hb, hml, hown, hta⟩ (c_X4_rightsOf l lf) ⟨va_cnB 1 hta (gC aw_418) rfl rfl rfl (hN.nm 19 rfl) (hta _ aw_38) (by decide +kernel) ⟨Nat.le_of_ble_eq_true rfl, Nat.le_of_ble_eq_true rfl⟩, (hta _ aw_417), trivial⟩ cx_pre0 rfl rfl hl.1 rfl (lv_room (Nat.le_of_ble_eq_true rfl)) dX0_keep_68 ⟨Nat.le_of_ble_eq_true rfl, Nat.le_of_ble_eq_true rfl⟩) (fun r hw_4 => ?_)
  subst hw_4
  refine cx_putEN (D := (dC, dI)) (v := mX4_rightsOf lf) (ty := .int) hx hb hta inA_X1 hown hK hP hD hS (hrow x_1 (by omega)).2 4 (by decide) (hN.nf 17 rfl) (fun _ h9 => h9) rfl (by decide +kernel) rfl rfl dX0_keep_71 (fun H locs hP hD hS => ?_)
  have hP : va_P (dC, dI) vwCl (CWl a k LP N L f1 f2 f3 f4 f5 f6 f7 f8 rd f10 f11 f12 n_1 f14_1 lf wd ho ro pa rs (setE (setE (setE (setE (setE E 0 (rowA rs x_1) p0) 1 (rowA rs x_1) f10) 2 (rowA rs x_1) (jushr p1 (mX4_bitsBelow f10))) 3 (rowA rs x_1) (mX4_frameOf lf)) 4 (rowA rs x_1) (mX4_rightsOf lf))) H := hP
  have hD : va_D A (CWl a k LP N L f1 f2 f3 f4 f5 f6 f7 f8 rd f10 f11 f12 n_1 f14_1 lf wd ho ro pa rs (setE (setE (setE (setE (setE E 0 (rowA rs x_1) p0) 1 (rowA rs x_1) f10) 2 (rowA rs x_1) (jushr p1 (mX4_bitsBelow f10))) 3 (rowA rs x_1) (mX4_frameOf lf)) 4 (rowA rs x_1) (mX4_rightsOf lf))) := hD
  refine lv_aload hx hb dX0_keep_74 (lv_at hl 0 rfl) ?_
  refine lv_aload_n hx hb dX0_keep_76 rfl (lv_at hl 5 rfl) ?_
  refine va_getN (D := (dC, dI)) (ci := 3) (v := .long lf) (C := RX3) (T := TX3) (N := 8) hx hb hta inA_X3 hown hK hP 4 rfl rfl 4 (by decide) (hN.nf 5 rfl) (fun _ h9 => h9) rfl dX0_keep_77 ?_
  refine lv_ldc2 (v := 128) hx hb hown (hta _ aw_443) dX0_keep_80 ?_
  refine lv_land hx hb dX0_keep_83 ?_
  refine lv_lconst (v := 0) hx hb dX0_keep_84 (by decide) ?_
  refine W.lcmp hx hb dX0_keep_85 ?_
  refine lv_if_eq (tgt := 93) hx hb dX0_keep_86 (by decide) (fun c_86_4 => ?_) (fun c_86_4 => ?_)
  · refine lv_iconst (v := 0) hx hb dX0_keep_93 (by decide) ?_
    refine cx_putEN (D := (dC, dI)) (v := (0 : Int32)) (ty := .boolean) hx hb hta inA_X1 hown hK hP hD hS (hrow x_1 (by omega)).2 5 (by decide) (hN.nf 19 rfl) (fun _ h9 => h9) rfl (by decide +kernel) rfl rfl dX0_keep_94 (fun H locs hP hD hS => ?_)
    have hP : va_P (dC, dI) vwCl (CWl a k LP N L f1 f2 f3 f4 f5 f6 f7 f8 rd f10 f11 f12 n_1 f14_1 lf wd ho ro pa rs (setE (setE (setE (setE (setE (setE E 0 (rowA rs x_1) p0) 1 (rowA rs x_1) f10) 2 (rowA rs x_1) (jushr p1 (mX4_bitsBelow f10))) 3 (rowA rs x_1) (mX4_frameOf lf)) 4 (rowA rs x_1) (mX4_rightsOf lf)) 5 (rowA rs x_1) (0 : Int32))) H := hP
    have hD : va_D A (CWl a k LP N L f1 f2 f3 f4 f5 f6 f7 f8 rd f10 f11 f12 n_1 f14_1 lf wd ho ro pa rs (setE (setE (setE (setE (setE (setE E 0 (rowA rs x_1) p0) 1 (rowA rs x_1) f10) 2 (rowA rs x_1) (jushr p1 (mX4_bitsBelow f10))) 3 (rowA rs x_1) (mX4_frameOf lf)) 4 (rowA rs x_1) (mX4_rightsOf lf)) 5 (rowA rs x_1) (0 : Int32))) := hD
    refine lv_aload_n hx hb dX0_keep_97 rfl (lv_at hl 2 rfl) ?_
    refine lv_iload hx hb dX0_keep_98 (lv_at hl 1 rfl) ?_
    have hFc : ∀ q, va_A (CWl a k LP N L f1 f2 f3 f4 f5 f6 f7 f8 rd f10 f11 f12 n_1 f14_1 lf wd ho ro pa rs (setE (setE (setE (setE (setE (setE E 0 (rowA rs x_1) p0) 1 (rowA rs x_1) f10) 2 (rowA rs x_1) (jushr p1 (mX4_bitsBelow f10))) 3 (rowA rs x_1) (mX4_frameOf lf)) 4 (rowA rs x_1) (mX4_rightsOf lf)) 5 (rowA rs x_1) (0 : Int32))) H.size q → A q := cx_free hD hS hA
    refine va_callv (va_runV (As := [.int (nI x_1)]) (rest := []) ⟨hx, hb, hml, hown, hta⟩ (c_X0_use l dC dI a k LP N L f1 f2 f3 f4 f5 f6 f7 f8 rd f10 f11 f12 n_1 f14_1 lf wd ho ro pa rs (setE (setE (setE (setE (setE (setE E 0 (rowA rs x_1) p0) 1 (rowA rs x_1) f10) 2 (rowA rs x_1) (jushr p1 (mX4_bitsBelow f10))) 3 (rowA rs x_1) (mX4_frameOf lf)) 4 (rowA rs x_1) (mX4_rightsOf lf)) 5 (rowA rs x_1) (0 : Int32)) H.size x_1 (by omega) hN32 hrow) (cwV 1 hta (gV aw_444 aw_446 aw_14 aw_41 aw_447) rfl rfl rfl (by decide +kernel) ⟨Nat.le_of_ble_eq_true rfl, Nat.le_of_ble_eq_true rfl⟩) (cx_preVQ hK hP hN (va_recv hK hP (ci := 0) (q0 := 6) rfl rfl) hD) rfl rfl hl.1 rfl (lv_room (Nat.le_of_ble_eq_true rfl)) dX0_keep_100 ⟨Nat.le_of_ble_eq_true rfl, Nat.le_of_ble_eq_true rfl⟩) hS (fun q _ h => hFc q h) hFc (fun u t9 H1 locs ht hvm hw_6 hB hz1 hk1 hS => ?_)
    obtain ⟨rs_6, rfl⟩ : ∃ z, z = u := ⟨_, rfl⟩
    obtain ⟨hP, hK1, hD1⟩ := hB
    rw [ht] at hP
    have hD := hD1.weaken (fun _ _ _ h => hFc _ h)
    clear hFc hz1 hk1 hK1 hD1 ht hvm
    generalize H1 = H at hP hS ⊢
    have hP : va_P (dC, dI) vwCl (CWl a k LP N L f1 f2 f3 f4 f5 f6 f7 f8 rd f10 f11 f12 n_1 f14_1 lf wd ho ro pa rs_6 (setE (setE (setE (setE (setE (setE E 0 (rowA rs x_1) p0) 1 (rowA rs x_1) f10) 2 (rowA rs x_1) (jushr p1 (mX4_bitsBelow f10))) 3 (rowA rs x_1) (mX4_frameOf lf)) 4 (rowA rs x_1) (mX4_rightsOf lf)) 5 (rowA rs x_1) (0 : Int32))) H := hP
    have hD : va_D A (CWl a k LP N L f1 f2 f3 f4 f5 f6 f7 f8 rd f10 f11 f12 n_1 f14_1 lf wd ho ro pa rs_6 (setE (setE (setE (setE (setE (setE E 0 (rowA rs x_1) p0) 1 (rowA rs x_1) f10) 2 (rowA rs x_1) (jushr p1 (mX4_bitsBelow f10))) 3 (rowA rs x_1) (mX4_frameOf lf)) 4 (rowA rs x_1) (mX4_rightsOf lf)) 5 (rowA rs x_1) (0 : Int32))) := hD
    exact W.vret hx hb hr (fun t ht hW => ⟨⟨(n_1, f14_1, rs_6, setE (setE (setE (setE (setE (setE E 0 (rowA rs x_1) p0) 1 (rowA rs x_1) f10) 2 (rowA rs x_1) (jushr p1 (mX4_bitsBelow f10))) 3 (rowA rs x_1) (mX4_frameOf lf)) 4 (rowA rs x_1) (mX4_rightsOf lf)) 5 (rowA rs x_1) (0 : Int32)), rfl, (by unfold mX0_keep; rewrite [← hw_1]; (try dsimp only); rewrite [if_pos c_86_4]; rewrite [← hw_6]; (try dsimp only); (first | done | rfl)), by rw [ht]; exact hP, va_K.moved hW.alike hK, hD⟩, hS.F ht⟩) hS.2.2 dX0_keep_103
  · refine lv_iconst (v := 1) hx hb dX0_keep_89 (by decide) ?_
    refine lv_goto (tgt := 94) hx hb dX0_keep_90 (by decide) ?_
    refine cx_putEN (D := (dC, dI)) (v := (1 : Int32)) (ty := .boolean) hx hb hta inA_X1 hown hK hP hD hS (hrow x_1 (by omega)).2 5 (by decide) (hN.nf 19 rfl) (fun _ h9 => h9) rfl (by decide +kernel) rfl rfl dX0_keep_94 (fun H locs hP hD hS => ?_)
    have hP : va_P (dC, dI) vwCl (CWl a k LP N L f1 f2 f3 f4 f5 f6 f7 f8 rd f10 f11 f12 n_1 f14_1 lf wd ho ro pa rs (setE (setE (setE (setE (setE (setE E 0 (rowA rs x_1) p0) 1 (rowA rs x_1) f10) 2 (rowA rs x_1) (jushr p1 (mX4_bitsBelow f10))) 3 (rowA rs x_1) (mX4_frameOf lf)) 4 (rowA rs x_1) (mX4_rightsOf lf)) 5 (rowA rs x_1) (1 : Int32))) H := hP
    have hD : va_D A (CWl a k LP N L f1 f2 f3 f4 f5 f6 f7 f8 rd f10 f11 f12 n_1 f14_1 lf wd ho ro pa rs (setE (setE (setE (setE (setE (setE E 0 (rowA rs x_1) p0) 1 (rowA rs x_1) f10) 2 (rowA rs x_1) (jushr p1 (mX4_bitsBelow f10))) 3 (rowA rs x_1) (mX4_frameOf lf)) 4 (rowA rs x_1) (mX4_rightsOf lf)) 5 (rowA rs x_1) (1 : Int32))) := hD
    refine lv_aload_n hx hb dX0_keep_97 rfl (lv_at hl 2 rfl) ?_
    refine lv_iload hx hb dX0_keep_98 (lv_at hl 1 rfl) ?_
    have hFc : ∀ q, va_A (CWl a k LP N L f1 f2 f3 f4 f5 f6 f7 f8 rd f10 f11 f12 n_1 f14_1 lf wd ho ro pa rs (setE (setE (setE (setE (setE (setE E 0 (rowA rs x_1) p0) 1 (rowA rs x_1) f10) 2 (rowA rs x_1) (jushr p1 (mX4_bitsBelow f10))) 3 (rowA rs x_1) (mX4_frameOf lf)) 4 (rowA rs x_1) (mX4_rightsOf lf)) 5 (rowA rs x_1) (1 : Int32))) H.size q → A q := cx_free hD hS hA
    refine va_callv (va_runV (As := [.int (nI x_1)]) (rest := []) ⟨hx, hb, hml, hown, hta⟩ (c_X0_use l dC dI a k LP N L f1 f2 f3 f4 f5 f6 f7 f8 rd f10 f11 f12 n_1 f14_1 lf wd ho ro pa rs (setE (setE (setE (setE (setE (setE E 0 (rowA rs x_1) p0) 1 (rowA rs x_1) f10) 2 (rowA rs x_1) (jushr p1 (mX4_bitsBelow f10))) 3 (rowA rs x_1) (mX4_frameOf lf)) 4 (rowA rs x_1) (mX4_rightsOf lf)) 5 (rowA rs x_1) (1 : Int32)) H.size x_1 (by omega) hN32 hrow) (cwV 1 hta (gV aw_444 aw_446 aw_14 aw_41 aw_447) rfl rfl rfl (by decide +kernel) ⟨Nat.le_of_ble_eq_true rfl, Nat.le_of_ble_eq_true rfl⟩) (cx_preVQ hK hP hN (va_recv hK hP (ci := 0) (q0 := 6) rfl rfl) hD) rfl rfl hl.1 rfl (lv_room (Nat.le_of_ble_eq_true rfl)) dX0_keep_100 ⟨Nat.le_of_ble_eq_true rfl, Nat.le_of_ble_eq_true rfl⟩) hS (fun q _ h => hFc q h) hFc (fun u t9 H1 locs ht hvm hw_7 hB hz1 hk1 hS => ?_)
    obtain ⟨rs_7, rfl⟩ : ∃ z, z = u := ⟨_, rfl⟩
    obtain ⟨hP, hK1, hD1⟩ := hB
    rw [ht] at hP
    have hD := hD1.weaken (fun _ _ _ h => hFc _ h)
    clear hFc hz1 hk1 hK1 hD1 ht hvm
    generalize H1 = H at hP hS ⊢
    have hP : va_P (dC, dI) vwCl (CWl a k LP N L f1 f2 f3 f4 f5 f6 f7 f8 rd f10 f11 f12 n_1 f14_1 lf wd ho ro pa rs_7 (setE (setE (setE (setE (setE (setE E 0 (rowA rs x_1) p0) 1 (rowA rs x_1) f10) 2 (rowA rs x_1) (jushr p1 (mX4_bitsBelow f10))) 3 (rowA rs x_1) (mX4_frameOf lf)) 4 (rowA rs x_1) (mX4_rightsOf lf)) 5 (rowA rs x_1) (1 : Int32))) H := hP
    have hD : va_D A (CWl a k LP N L f1 f2 f3 f4 f5 f6 f7 f8 rd f10 f11 f12 n_1 f14_1 lf wd ho ro pa rs_7 (setE (setE (setE (setE (setE (setE E 0 (rowA rs x_1) p0) 1 (rowA rs x_1) f10) 2 (rowA rs x_1) (jushr p1 (mX4_bitsBelow f10))) 3 (rowA rs x_1) (mX4_frameOf lf)) 4 (rowA rs x_1) (mX4_rightsOf lf)) 5 (rowA rs x_1) (1 : Int32))) := hD
    exact W.vret hx hb hr (fun t ht hW => ⟨⟨(n_1, f14_1, rs_7, setE (setE (setE (setE (setE (setE E 0 (rowA rs x_1) p0) 1 (rowA rs x_1) f10) 2 (rowA rs x_1) (jushr p1 (mX4_bitsBelow f10))) 3 (rowA rs x_1) (mX4_frameOf lf)) 4 (rowA rs x_1) (mX4_rightsOf lf)) 5 (rowA rs x_1) (1 : Int32)), rfl, (by unfold mX0_keep; rewrite [← hw_1]; (try dsimp only); rewrite [if_neg c_86_4]; rewrite [← hw_7]; (try dsimp only); (first | done | rfl)), by rw [ht]; exact hP, va_K.moved hW.alike hK, hD⟩, hS.F ht⟩) hS.2.2 dX0_keep_103
end
section
/-- Entries.forget: at row i, j rows left, t rows stay -/
def mForL (E : Nat → Nat → Int32) (p0 p1 p2 : Int32) : Nat → Nat → Nat → (Nat → Option Nat) → Nat × (Nat → Option Nat)
  | 0, _, t, r => (t, r)
  | j + 1, i, t, r => if mX0_isMeant E (rowA r i) p0 p1 p2 = 0 then mForL E p0 p1 p2 j (i + 1) (t + 1) (va_up (va_up r i (some (rowA r t))) t (some (rowA r i))) else mForL E p0 p1 p2 j (i + 1) t r
/-- two rows change places: the rows stay good -/
theorem swap_ok {N : Nat} {LP : List Nat} {r : Nat → Option Nat} (h : ∀ i, i < N → r i = some (rowA r i) ∧ rowA r i ∈ LP) {i t : Nat} (hi : i < N) (ht : t < N) : ∀ j, j < N → (va_up (va_up r i (some (rowA r t))) t (some (rowA r i))) j = some (rowA (va_up (va_up r i (some (rowA r t))) t (some (rowA r i))) j) ∧ rowA (va_up (va_up r i (some (rowA r t))) t (some (rowA r i))) j ∈ LP := by
  intro j hj
  have key : ∃ y, (va_up (va_up r i (some (rowA r t))) t (some (rowA r i))) j = some y ∧ y ∈ LP := by
    by_cases h1 : j = t
    · subst h1
      exact ⟨_, va_up_self _ _ _, (h i hi).2⟩
    · rw [va_up_ne _ _ h1]
      by_cases h2 : j = i
      · subst h2
        exact ⟨_, va_up_self _ _ _, (h t ht).2⟩
      · rw [va_up_ne _ _ h2]
        exact ⟨_, (h j hj).1, (h j hj).2⟩
  obtain ⟨y, e1, e2⟩ := key
  rw [rowA_some e1]
  exact ⟨e1, e2⟩
theorem mForL_le (E : Nat → Nat → Int32) (p0 p1 p2 : Int32) : ∀ (j i t : Nat) (r : Nat → Option Nat), (mForL E p0 p1 p2 j i t r).1 ≤ t + j
  | 0, _, t, _ => Nat.le_refl t
  | j + 1, i, t, r => by
    unfold mForL
    split
    · have := mForL_le E p0 p1 p2 j (i + 1) (t + 1) (va_up (va_up r i (some (rowA r t))) t (some (rowA r i)))
      omega
    · have := mForL_le E p0 p1 p2 j (i + 1) t r
      omega
def mFor (n : Nat) (x : Nat × (Nat → Option Nat)) : Int32 × Nat × (Nat → Option Nat) := (nI (n - x.1), x.1, x.2)

set_option maxHeartbeats 4000000 in
set_option maxRecDepth 100000 in
theorem c_X0_forget (l : Launch) (dC : Nat → ClassId) (dI : Nat → Nat → Nat) (a : Nat → Nat) (k : Nat → ClassId) (LP : List Nat) (N : Nat) (L : Nat) (f1 f2 f3 f4 f5 f6 f7 f8 : Int32) (rd : Nat) (f10 f11 f12 : Int32) (n : Nat) (f14 : Int32) (lf : Int64) (wd : Nat → Int64) (ho ro pa : Nat → Int32) (rs : Nat → Option Nat) (E : Nat → Nat → Int32)  (sz : Nat) (p0 : Int32) (p1 : Int32) (p2 : Int32) (hn : n ≤ N) (hN32 : N ≤ 32) (hrow : ∀ i, i < N → rs i = some (rowA rs i) ∧ rowA rs i ∈ LP) : Met l yX0_forget (wX0_forget :: AW) ({ frames := 3, cells := 0, slots := 0, locals := 65 }) (va_Pc [.ref (a 6), .int p0, .int p1, .int p2] (CPrQ dC dI (CWl a k LP N L f1 f2 f3 f4 f5 f6 f7 f8 rd f10 f11 f12 n f14 lf wd ho ro pa rs E) [(k 0, .long), (k 1, .int), (k 2, .int), (k 3, .object "PageRows$Entry"), (k 4, .int)] sz)) (va_Qi (fun (r : Int32) (u : Nat × (Nat → Option Nat)) => (r, u) = mFor n (mForL E p0 p1 p2 n 0 0 rs)) (fun (u : Nat × (Nat → Option Nat)) (t : State) => match u with | (n', rs') => va_P (dC, dI) vwCl (CWl a k LP N L f1 f2 f3 f4 f5 f6 f7 f8 rd f10 f11 f12 n' f14 lf wd ho ro pa rs' E) t.heap ∧ va_K (dC, dI) vwCl [(k 0, .long), (k 1, .int), (k 2, .int), (k 3, .object "PageRows$Entry"), (k 4, .int)] t ∧ va_D (va_A (CWl a k LP N L f1 f2 f3 f4 f5 f6 f7 f8 rd f10 f11 f12 n f14 lf wd ho ro pa rs E) sz) (CWl a k LP N L f1 f2 f3 f4 f5 f6 f7 f8 rd f10 f11 f12 n' f14 lf wd ho ro pa rs' E)) (va_A (CWl a k LP N L f1 f2 f3 f4 f5 f6 f7 f8 rd f10 f11 f12 n f14 lf wd ho ro pa rs E) sz)) 0 0 (va_A (CWl a k LP N L f1 f2 f3 f4 f5 f6 f7 f8 rd f10 f11 f12 n f14 lf wd ho ro pa rs E) sz) := by
  refine cx_of (cc := cX0_forget) (maxL := 7) (ret := some .int) (by decide) rfl (Nat.le_of_ble_eq_true rfl) ?_
  intro p e s m below meth c ls hx hb hr hts hown hlocks hml hnm hl hB
  have hta : ∀ w ∈ AW, w.before [.ref (a 6), .int p0, .int p1, .int p2].toArray s = true := fun w h => hts w (List.mem_cons_of_mem _ h)
  have hl : lv_has ls 7 [(0, .ref (a 6)), (1, .int p0), (2, .int p1), (3, .int p2)] := hl
  have hown : s.vm.findClass RX0 = some m.cls := hown
  obtain ⟨rfl, ⟨hP, hK, hN⟩, hD0⟩ := hB
  have hD := hD0.self (sz := s.heap.size)
  generalize hAe : va_A (CWl a k LP N L f1 f2 f3 f4 f5 f6 f7 f8 rd f10 f11 f12 n f14 lf wd ho ro pa rs E) s.heap.size = A at hD ⊢
  have hA : ∀ q : Nat, s.heap.size ≤ q → A q := fun q h => by rw [← hAe]; exact Or.inr h
  have hS : va_S A s.heap s.heap [] := va_S.rf
  have loop : ∀ (j i t : Nat) (r : Nat → Option Nat), i + j = n → t ≤ i → (∀ i, i < N → r i = some (rowA r i) ∧ rowA r i ∈ LP) → mForL E p0 p1 p2 n 0 0 rs = mForL E p0 p1 p2 j i t r → ∀ (H : Heap) (locs : List Loc), va_P (dC, dI) vwCl (CWl a k LP N L f1 f2 f3 f4 f5 f6 f7 f8 rd f10 f11 f12 n f14 lf wd ho ro pa r E) H → va_D A (CWl a k LP N L f1 f2 f3 f4 f5 f6 f7 f8 rd f10 f11 f12 n f14 lf wd ho ro pa r E) → va_S A s.heap H locs → ∀ (ls : Array Slot), lv_has ls 7 [(5, .int (nI i)), (4, .int (nI t)), (0, .ref (a 6)), (1, .int p0), (2, .int p1), (3, .int p2)] → W p l e ({ frames := 3, cells := 0, slots := 0, locals := 65 }) s m [.ref (a 6), .int p0, .int p1, .int p2].toArray below meth c H locs 0 0 (MQ below (va_Qi (fun (r : Int32) (u : Nat × (Nat → Option Nat)) => (r, u) = mFor n (mForL E p0 p1 p2 n 0 0 rs)) (fun (u : Nat × (Nat → Option Nat)) (t : State) => match u with | (n', rs') => va_P (dC, dI) vwCl (CWl a k LP N L f1 f2 f3 f4 f5 f6 f7 f8 rd f10 f11 f12 n' f14 lf wd ho ro pa rs' E) t.heap ∧ va_K (dC, dI) vwCl [(k 0, .long), (k 1, .int), (k 2, .int), (k 3, .object "PageRows$Entry"), (k 4, .int)] t ∧ va_D A (CWl a k LP N L f1 f2 f3 f4 f5 f6 f7 f8 rd f10 f11 f12 n' f14 lf wd ho ro pa rs' E)) A) [.ref (a 6), .int p0, .int p1, .int p2].toArray s 0 0 A) (F0 m 6 ls []) := by
    intro j
    induction j with
    | zero =>
      intro i t r hi hti hrow hm H locs hP hD hS ls hl
      refine lv_iload hx hb dX0_forget_6 (lv_at hl 0 rfl) ?_
      refine lv_aload_n hx hb dX0_forget_8 rfl (lv_at hl 2 rfl) ?_
      refine va_get (D := (dC, dI)) (ci := 0) (v := .int (nI n)) (C := RX0) (T := TX0) (N := 3) hx hb hta inA_X0 hown hK hP 6 rfl rfl 1 (by decide) (hta _ aw_161) (fun _ h9 => h9) rfl dX0_forget_9 ?_
      refine lv_icmp_ge (tgt := 67) hx hb dX0_forget_12 (by decide) (fun c_12_0 => ?_) (fun c_12_0 => ?_)
      · refine lv_aload_n hx hb dX0_forget_67 rfl (lv_at hl 2 rfl) ?_
        refine va_get (D := (dC, dI)) (ci := 0) (v := .int (nI n)) (C := RX0) (T := TX0) (N := 3) hx hb hta inA_X0 hown hK hP 6 rfl rfl 1 (by decide) (hta _ aw_161) (fun _ h9 => h9) rfl dX0_forget_68 ?_
        refine lv_iload hx hb dX0_forget_71 (lv_at hl 1 rfl) ?_
        refine lv_isub hx hb dX0_forget_73 ?_
        rw [show (nI n) - (nI t) = nI (n - t) from pk_sub (show t ≤ n by omega)]
        refine lv_istore (lv' := [(5, .int (nI (n - t))), (4, .int (nI t)), (0, .ref (a 6)), (1, .int p0), (2, .int p1), (3, .int p2)]) hx hb dX0_forget_74 hl (by decide) rfl (fun ls hl => ?_)
        refine lv_aload_n hx hb dX0_forget_76 rfl (lv_at hl 2 rfl) ?_
        refine lv_iload hx hb dX0_forget_77 (lv_at hl 1 rfl) ?_
        refine va_put (D := (dC, dI)) (ci := 0) (v := .int (nI t)) (ty := .int) (C := RX0) (T := TX0) (N := 3) hx hb hta inA_X0 tyX0 tyX0_ok nmX0 hown hK hP hD hS 6 rfl rfl 1 (by decide) (hta _ aw_161) (fun _ h9 => h9) rfl (by decide +kernel) rfl rfl (Nat.le_of_ble_eq_true rfl) dX0_forget_79 (fun H locs hP hD hS => ?_)
        have hP : va_P (dC, dI) vwCl (CWl a k LP N L f1 f2 f3 f4 f5 f6 f7 f8 rd f10 f11 f12 t f14 lf wd ho ro pa r E) H := hP
        have hD : va_D A (CWl a k LP N L f1 f2 f3 f4 f5 f6 f7 f8 rd f10 f11 f12 t f14 lf wd ho ro pa r E) := hD
        refine lv_iload hx hb dX0_forget_82 (lv_at hl 0 rfl) ?_
        exact W.iret (v := nI (n - t)) hx hb hr (fun t9 ht hW => ⟨⟨nI (n - t), (t, r), rfl, (by rw [hm]; rfl), by rw [ht]; exact hP, va_K.moved hW.alike hK, hD⟩, hS.F ht⟩) hS.2.2 dX0_forget_84
      · exact absurd (nI_le (by omega) (by omega)) c_12_0
    | succ j ih =>
      intro i t r hi hti hrow hm H locs hP hD hS ls hl
      refine lv_iload hx hb dX0_forget_6 (lv_at hl 0 rfl) ?_
      refine lv_aload_n hx hb dX0_forget_8 rfl (lv_at hl 2 rfl) ?_
      refine va_get (D := (dC, dI)) (ci := 0) (v := .int (nI n)) (C := RX0) (T := TX0) (N := 3) hx hb hta inA_X0 hown hK hP 6 rfl rfl 1 (by decide) (hta _ aw_161) (fun _ h9 => h9) rfl dX0_forget_9 ?_
      refine lv_icmp_ge (tgt := 67) hx hb dX0_forget_12 (by decide) (fun c_12_1 => ?_) (fun c_12_1 => ?_)
      · exact absurd c_12_1 (nI_ge (by omega) (by omega))
      · refine lv_aload_n hx hb dX0_forget_15 rfl (lv_at hl 2 rfl) ?_
        refine va_get (D := (dC, dI)) (ci := 0) (v := .ref (a 7)) (C := RX0) (T := TX0) (N := 3) hx hb hta inA_X0 hown hK hP 6 rfl rfl 0 (by decide) (hta _ aw_159) (fun _ h9 => h9) rfl dX0_forget_16 ?_
        refine lv_iload hx hb dX0_forget_19 (lv_at hl 0 rfl) ?_
        refine cx_aald hx hb hK hP 7 3 rfl rfl (vp_in_nI (by omega) (by omega)) (by rw [nI_clamp (by omega)]; exact (hrow i (by omega)).1) dX0_forget_21 ?_
        refine lv_astore (lv' := [(6, .ref (rowA r i)), (5, .int (nI i)), (4, .int (nI t)), (0, .ref (a 6)), (1, .int p0), (2, .int p1), (3, .int p2)]) hx hb dX0_forget_22 hl (by decide) rfl (fun ls hl => ?_)
        refine lv_aload hx hb dX0_forget_24 (lv_at hl 0 rfl) ?_
        refine lv_iload_n hx hb dX0_forget_26 rfl (lv_at hl 4 rfl) ?_
        refine lv_iload_n hx hb dX0_forget_27 rfl (lv_at hl 5 rfl) ?_
        refine lv_iload_n hx hb dX0_forget_28 rfl (lv_at hl 6 rfl) ?_
        refine cx_callSi (va_runS (As := [.ref (rowA r i), .int p0, .int p1, .int p2]) (rest := []) ⟨hx, hb, hml, hown, hta⟩ (c_X0_isMeant l dC dI a k LP N L f1 f2 f3 f4 f5 f6 f7 f8 rd f10 f11 f12 n f14 lf wd ho ro pa r E (rowA r i) ((hrow i (by omega)).2) p0 p1 p2) (va_cwS 4 hta (gS aw_477 aw_478 aw_41 aw_479) rfl rfl rfl (by decide +kernel) ⟨Nat.le_of_ble_eq_true rfl, Nat.le_of_ble_eq_true rfl⟩) (cx_preSS hK hP hN) rfl rfl hl.1 rfl (lv_room (Nat.le_of_ble_eq_true rfl)) dX0_forget_29 ⟨Nat.le_of_ble_eq_true rfl, Nat.le_of_ble_eq_true rfl⟩) (fun r hw_3 => ?_)
        subst hw_3
        refine lv_if_ne (tgt := 61) hx hb dX0_forget_32 (by decide) (fun c_32_3 => ?_) (fun c_32_3 => ?_)
        · refine lv_iinc (v := nI (i + 1)) (lv' := [(5, .int (nI (i + 1))), (6, .ref (rowA r i)), (4, .int (nI t)), (0, .ref (a 6)), (1, .int p0), (2, .int p1), (3, .int p2)]) hx hb dX0_forget_61 hl (k := 1) rfl (cx_inc i 1 rfl) (by decide) rfl (fun ls hl => ?_)
          refine lv_goto (tgt := 6) hx hb dX0_forget_64 (by decide) ?_
          exact ih (i + 1) t r (by omega) (by omega) hrow (by rw [hm, mForL, if_neg c_32_3]) H locs hP hD hS ls (lv_sub hl [0, 2, 3, 4, 5, 6] rfl)
        · refine lv_aload_n hx hb dX0_forget_35 rfl (lv_at hl 3 rfl) ?_
          refine va_get (D := (dC, dI)) (ci := 0) (v := .ref (a 7)) (C := RX0) (T := TX0) (N := 3) hx hb hta inA_X0 hown hK hP 6 rfl rfl 0 (by decide) (hta _ aw_159) (fun _ h9 => h9) rfl dX0_forget_36 ?_
          refine lv_iload hx hb dX0_forget_39 (lv_at hl 1 rfl) ?_
          refine lv_aload_n hx hb dX0_forget_41 rfl (lv_at hl 3 rfl) ?_
          refine va_get (D := (dC, dI)) (ci := 0) (v := .ref (a 7)) (C := RX0) (T := TX0) (N := 3) hx hb hta inA_X0 hown hK hP 6 rfl rfl 0 (by decide) (hta _ aw_159) (fun _ h9 => h9) rfl dX0_forget_42 ?_
          refine lv_iload hx hb dX0_forget_45 (lv_at hl 2 rfl) ?_
          refine cx_aald hx hb hK hP 7 3 rfl rfl (vp_in_nI (by omega) (by omega)) (by rw [nI_clamp (by omega)]; exact (hrow t (by omega)).1) dX0_forget_47 ?_
          obtain ⟨k_5, hk_5⟩ := va_pl_get (X := (CWx a k N L f1 f2 f3 f4 f5 f6 f7 f8 rd f10 f11 f12 n f14 lf wd ho ro pa r)) (f := (CEf E)) (hrow t (by omega)).2
          refine va_astq hx hb hK hP hD hS 7 3 k_5 1 rfl rfl hk_5 rfl (vp_in_nI (by omega) (by omega)) dX0_forget_48 (fun H locs hP hD hS => ?_)
          rw [nI_clamp (show i < 2 ^ 31 by omega)] at hP hD
          have hP : va_P (dC, dI) vwCl (CWl a k LP N L f1 f2 f3 f4 f5 f6 f7 f8 rd f10 f11 f12 n f14 lf wd ho ro pa (va_up r i (some (rowA r t))) E) H := hP
          have hD : va_D A (CWl a k LP N L f1 f2 f3 f4 f5 f6 f7 f8 rd f10 f11 f12 n f14 lf wd ho ro pa (va_up r i (some (rowA r t))) E) := hD
          refine lv_aload_n hx hb dX0_forget_49 rfl (lv_at hl 3 rfl) ?_
          refine va_get (D := (dC, dI)) (ci := 0) (v := .ref (a 7)) (C := RX0) (T := TX0) (N := 3) hx hb hta inA_X0 hown hK hP 6 rfl rfl 0 (by decide) (hta _ aw_159) (fun _ h9 => h9) rfl dX0_forget_50 ?_
          refine lv_iload hx hb dX0_forget_53 (lv_at hl 2 rfl) ?_
          refine lv_aload hx hb dX0_forget_55 (lv_at hl 0 rfl) ?_
          obtain ⟨k_6, hk_6⟩ := va_pl_get (X := (CWx a k N L f1 f2 f3 f4 f5 f6 f7 f8 rd f10 f11 f12 n f14 lf wd ho ro pa (va_up r i (some (rowA r t))))) (f := (CEf E)) (hrow i (by omega)).2
          refine va_astq hx hb hK hP hD hS 7 3 k_6 1 rfl rfl hk_6 rfl (vp_in_nI (by omega) (by omega)) dX0_forget_57 (fun H locs hP hD hS => ?_)
          rw [nI_clamp (show t < 2 ^ 31 by omega)] at hP hD
          have hP : va_P (dC, dI) vwCl (CWl a k LP N L f1 f2 f3 f4 f5 f6 f7 f8 rd f10 f11 f12 n f14 lf wd ho ro pa (va_up (va_up r i (some (rowA r t))) t (some (rowA r i))) E) H := hP
          have hD : va_D A (CWl a k LP N L f1 f2 f3 f4 f5 f6 f7 f8 rd f10 f11 f12 n f14 lf wd ho ro pa (va_up (va_up r i (some (rowA r t))) t (some (rowA r i))) E) := hD
          refine lv_iinc (v := nI (t + 1)) (lv' := [(4, .int (nI (t + 1))), (6, .ref (rowA r i)), (5, .int (nI i)), (0, .ref (a 6)), (1, .int p0), (2, .int p1), (3, .int p2)]) hx hb dX0_forget_58 hl (k := 2) rfl (cx_inc t 1 rfl) (by decide) rfl (fun ls hl => ?_)
          refine lv_iinc (v := nI (i + 1)) (lv' := [(5, .int (nI (i + 1))), (4, .int (nI (t + 1))), (6, .ref (rowA r i)), (0, .ref (a 6)), (1, .int p0), (2, .int p1), (3, .int p2)]) hx hb dX0_forget_61 hl (k := 2) rfl (cx_inc i 1 rfl) (by decide) rfl (fun ls hl => ?_)
          refine lv_goto (tgt := 6) hx hb dX0_forget_64 (by decide) ?_
          exact ih (i + 1) (t + 1) _ (by omega) (by omega) (swap_ok hrow (by omega) (by omega)) (by rw [hm, mForL, if_pos c_32_3]) H locs hP hD hS ls (lv_sub hl [0, 1, 3, 4, 5, 6] rfl)
  refine lv_iconst (v := 0) hx hb dX0_forget_0 (by decide) ?_
  refine lv_istore (lv' := [(4, .int (0 : Int32)), (0, .ref (a 6)), (1, .int p0), (2, .int p1), (3, .int p2)]) hx hb dX0_forget_1 hl (by decide) rfl (fun ls hl => ?_)
  refine lv_iconst (v := 0) hx hb dX0_forget_3 (by decide) ?_
  refine lv_istore (lv' := [(5, .int (0 : Int32)), (4, .int (0 : Int32)), (0, .ref (a 6)), (1, .int p0), (2, .int p1), (3, .int p2)]) hx hb dX0_forget_4 hl (by decide) rfl (fun ls hl => ?_)
  exact loop n 0 0 rs (by omega) (by omega) hrow rfl s.heap [] hP hD hS ls (lv_sub hl [0, 1, 2, 3, 4, 5] rfl)
end
section
/-- Path.mark: the words passed are SEEN, from the i-th on, j left -/
def mMarkL (pa : Nat → Int32) : Nat → Nat → (Nat → Int64) → (Nat → Int64)
  | 0, _, w => w
  | j + 1, i, w => mMarkL pa j (i + 1) (vp_updL w (pa i).toNatClampNeg ((w (pa i).toNatClampNeg) ||| (64 : Int64)))
def mMark (rd : Nat) (lf : Int64) (pa : Nat → Int32) (p0 : Int32) (w : Nat → Int64) : (Nat → Int64) × Int64 :=
  if rd = 0 then (w, lf)
  else if p0 = 0 then (w, w (pa (rd - 1)).toNatClampNeg)
  else (vp_updL w (pa (rd - 1)).toNatClampNeg ((w (pa (rd - 1)).toNatClampNeg) ||| (128 : Int64)), vp_updL w (pa (rd - 1)).toNatClampNeg ((w (pa (rd - 1)).toNatClampNeg) ||| (128 : Int64)) (pa (rd - 1)).toNatClampNeg)

set_option maxHeartbeats 4000000 in
set_option maxRecDepth 100000 in
theorem c_X3_mark (l : Launch) (dC : Nat → ClassId) (dI : Nat → Nat → Nat) (a : Nat → Nat) (k : Nat → ClassId) (LP : List Nat) (N : Nat) (L : Nat) (f1 f2 f3 f4 f5 f6 f7 f8 : Int32) (rd : Nat) (f10 f11 f12 : Int32) (n : Nat) (f14 : Int32) (lf : Int64) (wd : Nat → Int64) (ho ro pa : Nat → Int32) (rs : Nat → Option Nat) (E : Nat → Nat → Int32)  (sz : Nat) (p0 : Int32) (hrd : rd ≤ 4) (hpa : ∀ i, i < rd → vp_in (pa i) 4096) : Met l yX3_mark (wX3_mark :: AW) ({ frames := 0, cells := 0, slots := 0, locals := 0 }) (va_Pc [.ref (a 4), .int p0] (CPrQ dC dI (CWl a k LP N L f1 f2 f3 f4 f5 f6 f7 f8 rd f10 f11 f12 n f14 lf wd ho ro pa rs E) [(k 0, .long), (k 1, .int), (k 2, .int), (k 3, .object "PageRows$Entry"), (k 4, .int)] sz)) (va_Qv (fun (u : (Nat → Int64) × Int64) => u = mMark rd lf pa p0 (mMarkL pa rd 0 wd)) (fun (u : (Nat → Int64) × Int64) (t : State) => match u with | (wd', lf') => va_P (dC, dI) vwCl (CWl a k LP N L f1 f2 f3 f4 f5 f6 f7 f8 rd f10 f11 f12 n f14 lf' wd' ho ro pa rs E) t.heap ∧ va_K (dC, dI) vwCl [(k 0, .long), (k 1, .int), (k 2, .int), (k 3, .object "PageRows$Entry"), (k 4, .int)] t ∧ va_D (va_A (CWl a k LP N L f1 f2 f3 f4 f5 f6 f7 f8 rd f10 f11 f12 n f14 lf wd ho ro pa rs E) sz) (CWl a k LP N L f1 f2 f3 f4 f5 f6 f7 f8 rd f10 f11 f12 n f14 lf' wd' ho ro pa rs E)) (va_A (CWl a k LP N L f1 f2 f3 f4 f5 f6 f7 f8 rd f10 f11 f12 n f14 lf wd ho ro pa rs E) sz)) 0 0 (va_A (CWl a k LP N L f1 f2 f3 f4 f5 f6 f7 f8 rd f10 f11 f12 n f14 lf wd ho ro pa rs E) sz) := by
  refine cx_of (cc := cX3_mark) (maxL := 3) (ret := none) (by decide) rfl (Nat.le_of_ble_eq_true rfl) ?_
  intro p e s m below meth c ls hx hb hr hts hown hlocks hml hnm hl hB
  have hta : ∀ w ∈ AW, w.before [.ref (a 4), .int p0].toArray s = true := fun w h => hts w (List.mem_cons_of_mem _ h)
  have hl : lv_has ls 3 [(0, .ref (a 4)), (1, .int p0)] := hl
  have hown : s.vm.findClass RX3 = some m.cls := hown
  obtain ⟨rfl, ⟨hP, hK, hN⟩, hD0⟩ := hB
  have hD := hD0.self (sz := s.heap.size)
  generalize hAe : va_A (CWl a k LP N L f1 f2 f3 f4 f5 f6 f7 f8 rd f10 f11 f12 n f14 lf wd ho ro pa rs E) s.heap.size = A at hD ⊢
  have hA : ∀ q : Nat, s.heap.size ≤ q → A q := fun q h => by rw [← hAe]; exact Or.inr h
  have hS : va_S A s.heap s.heap [] := va_S.rf
  have loop : ∀ (j i : Nat) (w : Nat → Int64), i + j = rd → mMarkL pa rd 0 wd = mMarkL pa j i w → ∀ (H : Heap) (locs : List Loc), va_P (dC, dI) vwCl (CWl a k LP N L f1 f2 f3 f4 f5 f6 f7 f8 rd f10 f11 f12 n f14 lf w ho ro pa rs E) H → va_D A (CWl a k LP N L f1 f2 f3 f4 f5 f6 f7 f8 rd f10 f11 f12 n f14 lf w ho ro pa rs E) → va_S A s.heap H locs → ∀ (ls : Array Slot), lv_has ls 3 [(2, .int (nI i)), (0, .ref (a 4)), (1, .int p0)] → W p l e ({ frames := 0, cells := 0, slots := 0, locals := 0 }) s m [.ref (a 4), .int p0].toArray below meth c H locs 0 0 (MQ below (va_Qv (fun (u : (Nat → Int64) × Int64) => u = mMark rd lf pa p0 (mMarkL pa rd 0 wd)) (fun (u : (Nat → Int64) × Int64) (t : State) => match u with | (wd', lf') => va_P (dC, dI) vwCl (CWl a k LP N L f1 f2 f3 f4 f5 f6 f7 f8 rd f10 f11 f12 n f14 lf' wd' ho ro pa rs E) t.heap ∧ va_K (dC, dI) vwCl [(k 0, .long), (k 1, .int), (k 2, .int), (k 3, .object "PageRows$Entry"), (k 4, .int)] t ∧ va_D A (CWl a k LP N L f1 f2 f3 f4 f5 f6 f7 f8 rd f10 f11 f12 n f14 lf' wd' ho ro pa rs E)) A) [.ref (a 4), .int p0].toArray s 0 0 A) (F0 m 2 ls []) := by
    intro j
    induction j with
    | zero =>
      intro i w hi hm H locs hP hD hS ls hl
      refine lv_iload_n hx hb dX3_mark_2 rfl (lv_at hl 0 rfl) ?_
      refine lv_aload_n hx hb dX3_mark_3 rfl (lv_at hl 1 rfl) ?_
      refine va_get (D := (dC, dI)) (ci := 3) (v := .int (nI rd)) (C := RX3) (T := TX3) (N := 8) hx hb hta inA_X3 hown hK hP 4 rfl rfl 3 (by decide) (hta _ aw_88) (fun _ h9 => h9) rfl dX3_mark_4 ?_
      refine lv_icmp_ge (tgt := 36) hx hb dX3_mark_7 (by decide) (fun c_7_0 => ?_) (fun c_7_0 => ?_)
      · refine lv_aload_n hx hb dX3_mark_36 rfl (lv_at hl 1 rfl) ?_
        refine va_get (D := (dC, dI)) (ci := 3) (v := .int (nI rd)) (C := RX3) (T := TX3) (N := 8) hx hb hta inA_X3 hown hK hP 4 rfl rfl 3 (by decide) (hta _ aw_88) (fun _ h9 => h9) rfl dX3_mark_37 ?_
        refine lv_if_le (tgt := 87) hx hb dX3_mark_40 (by decide) (fun c_40_1 => ?_) (fun c_40_1 => ?_)
        · exact W.vret hx hb hr (fun t ht hW => ⟨⟨(w, lf), rfl, (by rw [hm]; unfold mMark; rw [if_pos (show rd = 0 from by rcases Nat.eq_zero_or_pos rd with q | q; exact q; exact absurd c_40_1 (nI_nle q (by omega)))]; rfl), by rw [ht]; exact hP, va_K.moved hW.alike hK, hD⟩, hS.F ht⟩) hS.2.2 dX3_mark_87
        · have h1rd : 1 ≤ rd := by
            rcases Nat.eq_zero_or_pos rd with q | q
            · exact absurd (by rw [q]; decide) c_40_1
            · exact q
          refine lv_aload_n hx hb dX3_mark_43 rfl (lv_at hl 1 rfl) ?_
          refine va_get (D := (dC, dI)) (ci := 3) (v := .ref (a 5)) (C := RX3) (T := TX3) (N := 8) hx hb hta inA_X3 hown hK hP 4 rfl rfl 2 (by decide) (hta _ aw_87) (fun _ h9 => h9) rfl dX3_mark_44 ?_
          refine lv_aload_n hx hb dX3_mark_47 rfl (lv_at hl 1 rfl) ?_
          refine va_get (D := (dC, dI)) (ci := 3) (v := .int (nI rd)) (C := RX3) (T := TX3) (N := 8) hx hb hta inA_X3 hown hK hP 4 rfl rfl 3 (by decide) (hta _ aw_88) (fun _ h9 => h9) rfl dX3_mark_48 ?_
          refine lv_iconst (v := 1) hx hb dX3_mark_51 (by decide) ?_
          refine lv_isub hx hb dX3_mark_52 ?_
          rw [show (nI rd) - (1 : Int32) = nI (rd - 1) from pk_sub (show 1 ≤ rd by omega)]
          refine va_iald hx hb hK hP 5 2 rfl rfl (vp_in_nI (by omega) (by omega)) dX3_mark_53 ?_
          rw [nI_clamp (show (rd - 1) < 2 ^ 31 by omega)]
          refine lv_istore_n (lv' := [(2, .int (pa (rd - 1))), (0, .ref (a 4)), (1, .int p0)]) hx hb dX3_mark_54 rfl hl (by decide) rfl (fun ls hl => ?_)
          refine lv_iload_n hx hb dX3_mark_55 rfl (lv_at hl 2 rfl) ?_
          refine lv_if_eq (tgt := 74) hx hb dX3_mark_56 (by decide) (fun c_56_2 => ?_) (fun c_56_2 => ?_)
          · refine lv_aload_n hx hb dX3_mark_74 rfl (lv_at hl 1 rfl) ?_
            refine lv_aload_n hx hb dX3_mark_75 rfl (lv_at hl 1 rfl) ?_
            refine va_get (D := (dC, dI)) (ci := 3) (v := .ref (a 1)) (C := RX3) (T := TX3) (N := 8) hx hb hta inA_X3 hown hK hP 4 rfl rfl 0 (by decide) (hta _ aw_85) (fun _ h9 => h9) rfl dX3_mark_76 ?_
            refine va_getN (D := (dC, dI)) (ci := 2) (v := .ref (a 2)) (C := RX2) (T := TX2) (N := 3) hx hb hta inA_X2 hown hK hP 1 rfl rfl 0 (by decide) (hN.nf 1 rfl) (fun _ h9 => h9) rfl dX3_mark_79 ?_
            refine lv_iload_n hx hb dX3_mark_82 rfl (lv_at hl 0 rfl) ?_
            refine va_lald hx hb hK hP 2 0 rfl rfl (hpa (rd - 1) (by omega)) dX3_mark_83 ?_
            refine va_put (D := (dC, dI)) (ci := 3) (v := .long (w (pa (rd - 1)).toNatClampNeg)) (ty := .long) (C := RX3) (T := TX3) (N := 8) hx hb hta inA_X3 tyX3 tyX3_ok nmX3 hown hK hP hD hS 4 rfl rfl 4 (by decide) (hta _ aw_90) (fun _ h9 => h9) rfl (by decide +kernel) rfl rfl (Nat.le_of_ble_eq_true rfl) dX3_mark_84 (fun H locs hP hD hS => ?_)
            have hP : va_P (dC, dI) vwCl (CWl a k LP N L f1 f2 f3 f4 f5 f6 f7 f8 rd f10 f11 f12 n f14 (w (pa (rd - 1)).toNatClampNeg) w ho ro pa rs E) H := hP
            have hD : va_D A (CWl a k LP N L f1 f2 f3 f4 f5 f6 f7 f8 rd f10 f11 f12 n f14 (w (pa (rd - 1)).toNatClampNeg) w ho ro pa rs E) := hD
            exact W.vret hx hb hr (fun t ht hW => ⟨⟨(w, w (pa (rd - 1)).toNatClampNeg), rfl, (by rw [hm]; unfold mMark; rw [if_neg (show ¬ rd = 0 by omega), if_pos c_56_2]; rfl), by rw [ht]; exact hP, va_K.moved hW.alike hK, hD⟩, hS.F ht⟩) hS.2.2 dX3_mark_87
          · refine lv_aload_n hx hb dX3_mark_59 rfl (lv_at hl 1 rfl) ?_
            refine va_get (D := (dC, dI)) (ci := 3) (v := .ref (a 1)) (C := RX3) (T := TX3) (N := 8) hx hb hta inA_X3 hown hK hP 4 rfl rfl 0 (by decide) (hta _ aw_85) (fun _ h9 => h9) rfl dX3_mark_60 ?_
            refine va_getN (D := (dC, dI)) (ci := 2) (v := .ref (a 2)) (C := RX2) (T := TX2) (N := 3) hx hb hta inA_X2 hown hK hP 1 rfl rfl 0 (by decide) (hN.nf 1 rfl) (fun _ h9 => h9) rfl dX3_mark_63 ?_
            refine lv_iload_n hx hb dX3_mark_66 rfl (lv_at hl 0 rfl) ?_
            refine lv_dup2_11 hx hb dX3_mark_67 rfl rfl ?_
            refine va_lald hx hb hK hP 2 0 rfl rfl (hpa (rd - 1) (by omega)) dX3_mark_68 ?_
            refine lv_ldc2 (v := 128) hx hb hown (hta _ aw_431) dX3_mark_69 ?_
            refine lv_lor hx hb dX3_mark_72 ?_
            refine va_last hx hb hK hP hD hS 2 0 rfl rfl (hpa (rd - 1) (by omega)) dX3_mark_73 (fun H locs hP hD hS => ?_)
            have hP : va_P (dC, dI) vwCl (CWl a k LP N L f1 f2 f3 f4 f5 f6 f7 f8 rd f10 f11 f12 n f14 lf (vp_updL w (pa (rd - 1)).toNatClampNeg ((w (pa (rd - 1)).toNatClampNeg) ||| (128 : Int64))) ho ro pa rs E) H := hP
            have hD : va_D A (CWl a k LP N L f1 f2 f3 f4 f5 f6 f7 f8 rd f10 f11 f12 n f14 lf (vp_updL w (pa (rd - 1)).toNatClampNeg ((w (pa (rd - 1)).toNatClampNeg) ||| (128 : Int64))) ho ro pa rs E) := hD
            refine lv_aload_n hx hb dX3_mark_74 rfl (lv_at hl 1 rfl) ?_
            refine lv_aload_n hx hb dX3_mark_75 rfl (lv_at hl 1 rfl) ?_
            refine va_get (D := (dC, dI)) (ci := 3) (v := .ref (a 1)) (C := RX3) (T := TX3) (N := 8) hx hb hta inA_X3 hown hK hP 4 rfl rfl 0 (by decide) (hta _ aw_85) (fun _ h9 => h9) rfl dX3_mark_76 ?_
            refine va_getN (D := (dC, dI)) (ci := 2) (v := .ref (a 2)) (C := RX2) (T := TX2) (N := 3) hx hb hta inA_X2 hown hK hP 1 rfl rfl 0 (by decide) (hN.nf 1 rfl) (fun _ h9 => h9) rfl dX3_mark_79 ?_
            refine lv_iload_n hx hb dX3_mark_82 rfl (lv_at hl 0 rfl) ?_
            refine va_lald hx hb hK hP 2 0 rfl rfl (hpa (rd - 1) (by omega)) dX3_mark_83 ?_
            refine va_put (D := (dC, dI)) (ci := 3) (v := .long ((vp_updL w (pa (rd - 1)).toNatClampNeg ((w (pa (rd - 1)).toNatClampNeg) ||| (128 : Int64))) (pa (rd - 1)).toNatClampNeg)) (ty := .long) (C := RX3) (T := TX3) (N := 8) hx hb hta inA_X3 tyX3 tyX3_ok nmX3 hown hK hP hD hS 4 rfl rfl 4 (by decide) (hta _ aw_90) (fun _ h9 => h9) rfl (by decide +kernel) rfl rfl (Nat.le_of_ble_eq_true rfl) dX3_mark_84 (fun H locs hP hD hS => ?_)
            have hP : va_P (dC, dI) vwCl (CWl a k LP N L f1 f2 f3 f4 f5 f6 f7 f8 rd f10 f11 f12 n f14 ((vp_updL w (pa (rd - 1)).toNatClampNeg ((w (pa (rd - 1)).toNatClampNeg) ||| (128 : Int64))) (pa (rd - 1)).toNatClampNeg) (vp_updL w (pa (rd - 1)).toNatClampNeg ((w (pa (rd - 1)).toNatClampNeg) ||| (128 : Int64))) ho ro pa rs E) H := hP
            have hD : va_D A (CWl a k LP N L f1 f2 f3 f4 f5 f6 f7 f8 rd f10 f11 f12 n f14 ((vp_updL w (pa (rd - 1)).toNatClampNeg ((w (pa (rd - 1)).toNatClampNeg) ||| (128 : Int64))) (pa (rd - 1)).toNatClampNeg) (vp_updL w (pa (rd - 1)).toNatClampNeg ((w (pa (rd - 1)).toNatClampNeg) ||| (128 : Int64))) ho ro pa rs E) := hD
            exact W.vret hx hb hr (fun t ht hW => ⟨⟨(vp_updL w (pa (rd - 1)).toNatClampNeg ((w (pa (rd - 1)).toNatClampNeg) ||| (128 : Int64)), (vp_updL w (pa (rd - 1)).toNatClampNeg ((w (pa (rd - 1)).toNatClampNeg) ||| (128 : Int64))) (pa (rd - 1)).toNatClampNeg), rfl, (by rw [hm]; unfold mMark; rw [if_neg (show ¬ rd = 0 by omega), if_neg c_56_2]; rfl), by rw [ht]; exact hP, va_K.moved hW.alike hK, hD⟩, hS.F ht⟩) hS.2.2 dX3_mark_87
      · exact absurd (nI_le (by omega) (by omega)) c_7_0
    | succ j ih =>
      intro i w hi hm H locs hP hD hS ls hl
      refine lv_iload_n hx hb dX3_mark_2 rfl (lv_at hl 0 rfl) ?_
      refine lv_aload_n hx hb dX3_mark_3 rfl (lv_at hl 1 rfl) ?_
      refine va_get (D := (dC, dI)) (ci := 3) (v := .int (nI rd)) (C := RX3) (T := TX3) (N := 8) hx hb hta inA_X3 hown hK hP 4 rfl rfl 3 (by decide) (hta _ aw_88) (fun _ h9 => h9) rfl dX3_mark_4 ?_
      refine lv_icmp_ge (tgt := 36) hx hb dX3_mark_7 (by decide) (fun c_7_3 => ?_) (fun c_7_3 => ?_)
      · exact absurd c_7_3 (nI_ge (by omega) (by omega))
      · refine lv_aload_n hx hb dX3_mark_10 rfl (lv_at hl 1 rfl) ?_
        refine va_get (D := (dC, dI)) (ci := 3) (v := .ref (a 1)) (C := RX3) (T := TX3) (N := 8) hx hb hta inA_X3 hown hK hP 4 rfl rfl 0 (by decide) (hta _ aw_85) (fun _ h9 => h9) rfl dX3_mark_11 ?_
        refine va_getN (D := (dC, dI)) (ci := 2) (v := .ref (a 2)) (C := RX2) (T := TX2) (N := 3) hx hb hta inA_X2 hown hK hP 1 rfl rfl 0 (by decide) (hN.nf 1 rfl) (fun _ h9 => h9) rfl dX3_mark_14 ?_
        refine lv_aload_n hx hb dX3_mark_17 rfl (lv_at hl 1 rfl) ?_
        refine va_get (D := (dC, dI)) (ci := 3) (v := .ref (a 5)) (C := RX3) (T := TX3) (N := 8) hx hb hta inA_X3 hown hK hP 4 rfl rfl 2 (by decide) (hta _ aw_87) (fun _ h9 => h9) rfl dX3_mark_18 ?_
        refine lv_iload_n hx hb dX3_mark_21 rfl (lv_at hl 0 rfl) ?_
        refine va_iald hx hb hK hP 5 2 rfl rfl (vp_in_nI (by omega) (by omega)) dX3_mark_22 ?_
        rw [nI_clamp (show i < 2 ^ 31 by omega)]
        refine lv_dup2_11 hx hb dX3_mark_23 rfl rfl ?_
        refine va_lald hx hb hK hP 2 0 rfl rfl (hpa i (by omega)) dX3_mark_24 ?_
        refine lv_ldc2 (v := 64) hx hb hown (hta _ aw_430) dX3_mark_25 ?_
        refine lv_lor hx hb dX3_mark_28 ?_
        refine va_last hx hb hK hP hD hS 2 0 rfl rfl (hpa i (by omega)) dX3_mark_29 (fun H locs hP hD hS => ?_)
        have hP : va_P (dC, dI) vwCl (CWl a k LP N L f1 f2 f3 f4 f5 f6 f7 f8 rd f10 f11 f12 n f14 lf (vp_updL w (pa i).toNatClampNeg ((w (pa i).toNatClampNeg) ||| (64 : Int64))) ho ro pa rs E) H := hP
        have hD : va_D A (CWl a k LP N L f1 f2 f3 f4 f5 f6 f7 f8 rd f10 f11 f12 n f14 lf (vp_updL w (pa i).toNatClampNeg ((w (pa i).toNatClampNeg) ||| (64 : Int64))) ho ro pa rs E) := hD
        refine lv_iinc (v := nI (i + 1)) (lv' := [(2, .int (nI (i + 1))), (0, .ref (a 4)), (1, .int p0)]) hx hb dX3_mark_30 hl (k := 0) rfl (cx_inc i 1 rfl) (by decide) rfl (fun ls hl => ?_)
        refine lv_goto (tgt := 2) hx hb dX3_mark_33 (by decide) ?_
        exact ih (i + 1) _ (by omega) (by rw [hm]; rfl) H locs hP hD hS ls (lv_sub hl [0, 1, 2] rfl)
  refine lv_iconst (v := 0) hx hb dX3_mark_0 (by decide) ?_
  refine lv_istore_n (lv' := [(2, .int (0 : Int32)), (0, .ref (a 4)), (1, .int p0)]) hx hb dX3_mark_1 rfl hl (by decide) rfl (fun ls hl => ?_)
  exact loop rd 0 wd (by omega) rfl s.heap [] hP hD hS ls (lv_sub hl [0, 1, 2] rfl)
end
section
def HOK (ho : Nat → Int32) : Prop := ∀ j, j < 256 → ho j = (-1 : Int32) ∨ ¬ ho j < 0
theorem home_ok {f8 : Int32} {ho : Nat → Int32} {p0 : Int32} (h : HOK ho) (hp : ¬ p0 < 0) : ¬ mX2_homeOf f8 ho p0 = (-1 : Int32) → ¬ mX2_homeOf f8 ho p0 < 0 := by
  unfold mX2_homeOf
  by_cases h1 : f8 = 0
  · rw [if_pos h1]
    exact fun _ => hp
  · rw [if_neg h1, if_neg hp]
    by_cases h3 : (256 : Int32) ≤ p0
    · rw [if_pos h3]
      exact fun q => absurd rfl q
    · rw [if_neg h3]
      obtain ⟨j, hj, rfl⟩ := vp_in_of (cx_in (n := 256) hp h3 rfl) (by decide)
      rw [nI_clamp (by omega)]
      intro q
      rcases h j hj with e | e
      · exact absurd e q
      · exact e
theorem read_rd {f8 : Int32} {rd : Nat} {lf : Int64} {wd : Nat → Int64} {ho pa : Nat → Int32} {p0 p1 r : Int32} {rd' : Nat} {lf' : Int64} {pa' : Nat → Int32} (h : (r, rd', lf', pa') = mX3_read f8 rd lf wd ho pa p0 p1) : rd' ≤ rd + 1 := by
  unfold mX3_read at h
  split at h
  · cases h; omega
  · split at h
    · split at h
      · cases h; omega
      · cases h; omega
    · cases h; omega
theorem frameOf_nn (x : Int64) : ¬ mX4_frameOf x < 0 := by
  unfold mX4_frameOf
  obtain ⟨j, hj, e⟩ := pk_andE ((jlushr x (8 : Int32)).toInt32) (m := (1048575 : Int32)) 20 (by decide)
  rw [e]
  exact nI_pos (by omega)
/-- Path.follow behind the leaf's reading: largeness b, the leaf's frame fr -/
def mFolT (L : Nat) (f8 : Int32) (ho : Nat → Int32) (p1 p2 : Int32) (b : Nat) (fr : Int32) (rd : Nat) (lf : Int64) (pa : Nat → Int32) : Int32 × Nat × Int64 × Int32 × Int32 × Int32 × (Nat → Int32) :=
  if mX3_leafFault (nI b) lf p2 = 0 then
    (if mX2_reach f8 ho fr (nI b) p1 = (-1 : Int32) then ((6 : Int32), rd, lf, nI b, nI L, mX2_reach f8 ho fr (nI b) p1, pa)
    else ((0 : Int32), rd, lf, nI b, (-1 : Int32), mX2_reach f8 ho fr (nI b) p1, pa))
  else (mX3_leafFault (nI b) lf p2, rd, lf, nI b, (nI L - (1 : Int32)) - nI b, (-1 : Int32), pa)
/-- Path.follow from the table at fr on, b levels behind it -/
def mFolL (L : Nat) (f8 : Int32) (wd : Nat → Int64) (ho : Nat → Int32) (p1 p2 : Int32) (f10 : Int32) : Nat → Int32 → Nat → Int64 → (Nat → Int32) → Int32 × Nat × Int64 × Int32 × Int32 × Int32 × (Nat → Int32)
  | 0, fr, rd, lf, pa => match mX3_read f8 rd lf wd ho pa fr (p1 >>> (mX4_bitsBelow (nI 0) &&& 31)) with
    | (r, rd', lf', pa') => if r = 0 then mFolT L f8 ho p1 p2 0 (mX4_frameOf lf') rd' lf' pa' else (r, rd', lf', f10, (nI L - (1 : Int32)) - nI 0, (-1 : Int32), pa')
  | b + 1, fr, rd, lf, pa => match mX3_read f8 rd lf wd ho pa fr (p1 >>> (mX4_bitsBelow (nI (b + 1)) &&& 31)) with
    | (r, rd', lf', pa') => if r = 0 then (if lg_cmp (lf' &&& (32 : Int64)) (0 : Int64) = 0 then mFolL L f8 wd ho p1 p2 f10 b (mX4_frameOf lf') rd' lf' pa' else mFolT L f8 ho p1 p2 (b + 1) (mX4_frameOf lf') rd' lf' pa') else (r, rd', lf', f10, (nI L - (1 : Int32)) - nI (b + 1), (-1 : Int32), pa')
def mFol (L : Nat) (f8 : Int32) (wd : Nat → Int64) (ho : Nat → Int32) (f10 : Int32) (lf : Int64) (pa : Nat → Int32) (p0 p1 p2 : Int32) : Int32 × Nat × Int64 × Int32 × Int32 × Int32 × (Nat → Int32) :=
  if mX3_isOutside L p1 = 0 then mFolL L f8 wd ho p1 p2 f10 (L - 1) p0 0 lf pa else ((1 : Int32), 0, lf, f10, (0 : Int32), (-1 : Int32), pa)

set_option maxHeartbeats 4000000 in
set_option maxRecDepth 100000 in
theorem c_X3_follow (l : Launch) (dC : Nat → ClassId) (dI : Nat → Nat → Nat) (a : Nat → Nat) (k : Nat → ClassId) (LP : List Nat) (N : Nat) (L : Nat) (f1 f2 f3 f4 f5 f6 f7 f8 : Int32) (rd : Nat) (f10 f11 f12 : Int32) (n : Nat) (f14 : Int32) (lf : Int64) (wd : Nat → Int64) (ho ro pa : Nat → Int32) (rs : Nat → Option Nat) (E : Nat → Nat → Int32)  (sz : Nat) (p0 : Int32) (p1 : Int32) (p2 : Int32) (hL1 : 1 ≤ L) (hL4 : L ≤ 4) (hho : HOK ho) (hp0 : ¬ p0 < 0) : Met l yX3_follow (wX3_follow :: AW) ({ frames := 2, cells := 0, slots := 0, locals := 46 }) (va_Pc [.ref (a 4), .int p0, .int p1, .int p2] (CPrQ dC dI (CWl a k LP N L f1 f2 f3 f4 f5 f6 f7 f8 rd f10 f11 f12 n f14 lf wd ho ro pa rs E) [(k 0, .long), (k 1, .int), (k 2, .int), (k 3, .object "PageRows$Entry"), (k 4, .int)] sz)) (va_Qi (fun (r : Int32) (u : Nat × Int64 × Int32 × Int32 × Int32 × (Nat → Int32)) => (r, u) = mFol L f8 wd ho f10 lf pa p0 p1 p2) (fun (u : Nat × Int64 × Int32 × Int32 × Int32 × (Nat → Int32)) (t : State) => match u with | (rd', lf', f10', f11', f12', pa') => va_P (dC, dI) vwCl (CWl a k LP N L f1 f2 f3 f4 f5 f6 f7 f8 rd' f10' f11' f12' n f14 lf' wd ho ro pa' rs E) t.heap ∧ va_K (dC, dI) vwCl [(k 0, .long), (k 1, .int), (k 2, .int), (k 3, .object "PageRows$Entry"), (k 4, .int)] t ∧ va_D (va_A (CWl a k LP N L f1 f2 f3 f4 f5 f6 f7 f8 rd f10 f11 f12 n f14 lf wd ho ro pa rs E) sz) (CWl a k LP N L f1 f2 f3 f4 f5 f6 f7 f8 rd' f10' f11' f12' n f14 lf' wd ho ro pa' rs E)) (va_A (CWl a k LP N L f1 f2 f3 f4 f5 f6 f7 f8 rd f10 f11 f12 n f14 lf wd ho ro pa rs E) sz)) 0 0 (va_A (CWl a k LP N L f1 f2 f3 f4 f5 f6 f7 f8 rd f10 f11 f12 n f14 lf wd ho ro pa rs E) sz) := by
  refine cx_of (cc := cX3_follow) (maxL := 7) (ret := some .int) (by decide) rfl (Nat.le_of_ble_eq_true rfl) ?_
  intro p e s m below meth c ls hx hb hr hts hown hlocks hml hnm hl hB
  have hta : ∀ w ∈ AW, w.before [.ref (a 4), .int p0, .int p1, .int p2].toArray s = true := fun w h => hts w (List.mem_cons_of_mem _ h)
  have hl : lv_has ls 7 [(0, .ref (a 4)), (1, .int p0), (2, .int p1), (3, .int p2)] := hl
  have hown : s.vm.findClass RX3 = some m.cls := hown
  obtain ⟨rfl, ⟨hP, hK, hN⟩, hD0⟩ := hB
  have hD := hD0.self (sz := s.heap.size)
  generalize hAe : va_A (CWl a k LP N L f1 f2 f3 f4 f5 f6 f7 f8 rd f10 f11 f12 n f14 lf wd ho ro pa rs E) s.heap.size = A at hD ⊢
  have hA : ∀ q : Nat, s.heap.size ≤ q → A q := fun q h => by rw [← hAe]; exact Or.inr h
  have hS : va_S A s.heap s.heap [] := va_S.rf
  have tail : ∀ (b : Nat) (fr : Int32) (rd1 : Nat) (lf1 : Int64) (f101 : Int32) (pa1 : Nat → Int32), mFol L f8 wd ho f10 lf pa p0 p1 p2 = mFolT L f8 ho p1 p2 b fr rd1 lf1 pa1 → ∀ (H : Heap) (locs : List Loc), va_P (dC, dI) vwCl (CWl a k LP N L f1 f2 f3 f4 f5 f6 f7 f8 rd1 f101 (-1 : Int32) (-1 : Int32) n f14 lf1 wd ho ro pa1 rs E) H → va_D A (CWl a k LP N L f1 f2 f3 f4 f5 f6 f7 f8 rd1 f101 (-1 : Int32) (-1 : Int32) n f14 lf1 wd ho ro pa1 rs E) → va_S A s.heap H locs → ∀ (ls : Array Slot), lv_has ls 7 [(0, .ref (a 4)), (2, .int p1), (3, .int p2), (4, .int fr), (5, .int (nI b))] → W p l e ({ frames := 2, cells := 0, slots := 0, locals := 46 }) s m [.ref (a 4), .int p0, .int p1, .int p2].toArray below meth c H locs 0 0 (MQ below (va_Qi (fun (r : Int32) (u : Nat × Int64 × Int32 × Int32 × Int32 × (Nat → Int32)) => (r, u) = mFol L f8 wd ho f10 lf pa p0 p1 p2) (fun (u : Nat × Int64 × Int32 × Int32 × Int32 × (Nat → Int32)) (t : State) => match u with | (rd', lf', f10', f11', f12', pa') => va_P (dC, dI) vwCl (CWl a k LP N L f1 f2 f3 f4 f5 f6 f7 f8 rd' f10' f11' f12' n f14 lf' wd ho ro pa' rs E) t.heap ∧ va_K (dC, dI) vwCl [(k 0, .long), (k 1, .int), (k 2, .int), (k 3, .object "PageRows$Entry"), (k 4, .int)] t ∧ va_D A (CWl a k LP N L f1 f2 f3 f4 f5 f6 f7 f8 rd' f10' f11' f12' n f14 lf' wd ho ro pa' rs E)) A) [.ref (a 4), .int p0, .int p1, .int p2].toArray s 0 0 A) (F0 m 105 ls []) := by
    intro b fr rd1 lf1 f101 pa1 hm H locs hP hD hS ls hl
    refine lv_aload_n hx hb dX3_follow_105 rfl (lv_at hl 0 rfl) ?_
    refine lv_iload hx hb dX3_follow_106 (lv_at hl 4 rfl) ?_
    refine va_put (D := (dC, dI)) (ci := 3) (v := .int (nI b)) (ty := .int) (C := RX3) (T := TX3) (N := 8) hx hb hta inA_X3 tyX3 tyX3_ok nmX3 hown hK hP hD hS 4 rfl rfl 5 (by decide) (hta _ aw_92) (fun _ h9 => h9) rfl (by decide +kernel) rfl rfl (Nat.le_of_ble_eq_true rfl) dX3_follow_108 (fun H locs hP hD hS => ?_)
    have hP : va_P (dC, dI) vwCl (CWl a k LP N L f1 f2 f3 f4 f5 f6 f7 f8 rd1 (nI b) (-1 : Int32) (-1 : Int32) n f14 lf1 wd ho ro pa1 rs E) H := hP
    have hD : va_D A (CWl a k LP N L f1 f2 f3 f4 f5 f6 f7 f8 rd1 (nI b) (-1 : Int32) (-1 : Int32) n f14 lf1 wd ho ro pa1 rs E) := hD
    refine lv_aload_n hx hb dX3_follow_111 rfl (lv_at hl 0 rfl) ?_
    refine lv_iload_n hx hb dX3_follow_112 rfl (lv_at hl 2 rfl) ?_
    refine cx_callSi (va_runV (As := [.int p2]) (rest := []) ⟨hx, hb, hml, hown, hta⟩ (c_X3_leafFault l dC dI a k LP N L f1 f2 f3 f4 f5 f6 f7 f8 rd1 (nI b) (-1 : Int32) (-1 : Int32) n f14 lf1 wd ho ro pa1 rs E p2) (cwV 1 hta (gV aw_412 aw_414 aw_9 aw_40 aw_415) rfl rfl rfl (by decide +kernel) ⟨Nat.le_of_ble_eq_true rfl, Nat.le_of_ble_eq_true rfl⟩) (cx_preVS hK hP hN (va_recv hK hP (ci := 3) (q0 := 4) rfl rfl)) rfl rfl hl.1 rfl (lv_room (Nat.le_of_ble_eq_true rfl)) dX3_follow_113 ⟨Nat.le_of_ble_eq_true rfl, Nat.le_of_ble_eq_true rfl⟩) (fun r hw_4 => ?_)
    subst hw_4
    refine lv_istore (lv' := [(6, .int (mX3_leafFault (nI b) lf1 p2)), (0, .ref (a 4)), (2, .int p1), (3, .int p2), (4, .int fr), (5, .int (nI b))]) hx hb dX3_follow_116 hl (by decide) rfl (fun ls hl => ?_)
    refine lv_iload hx hb dX3_follow_118 (lv_at hl 0 rfl) ?_
    refine lv_if_eq (tgt := 139) hx hb dX3_follow_120 (by decide) (fun c_120_4 => ?_) (fun c_120_4 => ?_)
    · refine lv_aload_n hx hb dX3_follow_139 rfl (lv_at hl 1 rfl) ?_
      refine lv_aload_n hx hb dX3_follow_140 rfl (lv_at hl 1 rfl) ?_
      refine va_get (D := (dC, dI)) (ci := 3) (v := .ref (a 1)) (C := RX3) (T := TX3) (N := 8) hx hb hta inA_X3 hown hK hP 4 rfl rfl 0 (by decide) (hta _ aw_85) (fun _ h9 => h9) rfl dX3_follow_141 ?_
      refine lv_iload hx hb dX3_follow_144 (lv_at hl 4 rfl) ?_
      refine lv_aload_n hx hb dX3_follow_146 rfl (lv_at hl 1 rfl) ?_
      refine va_get (D := (dC, dI)) (ci := 3) (v := .int (nI b)) (C := RX3) (T := TX3) (N := 8) hx hb hta inA_X3 hown hK hP 4 rfl rfl 5 (by decide) (hta _ aw_92) (fun _ h9 => h9) rfl dX3_follow_147 ?_
      refine lv_iload_n hx hb dX3_follow_150 rfl (lv_at hl 2 rfl) ?_
      refine cx_callSi (va_runVN (As := [.int fr, .int (nI b), .int p1]) (rest := [.ref (a 4)]) ⟨hx, hb, hml, hown, hta⟩ (c_X2_reach l dC dI a k LP N L f1 f2 f3 f4 f5 f6 f7 f8 rd1 (nI b) (-1 : Int32) (-1 : Int32) n f14 lf1 wd ho ro pa1 rs E fr (nI b) p1) ⟨va_cnB 3 hta (gC aw_423) rfl rfl rfl (hN.nm 13 rfl) (hta _ aw_39) (by decide +kernel) ⟨Nat.le_of_ble_eq_true rfl, Nat.le_of_ble_eq_true rfl⟩, (hta _ aw_422), (hta _ aw_10)⟩ (cx_preVS hK hP hN (va_recv hK hP (ci := 2) (q0 := 1) rfl rfl)) rfl rfl hl.1 rfl (lv_room (Nat.le_of_ble_eq_true rfl)) dX3_follow_151 ⟨Nat.le_of_ble_eq_true rfl, Nat.le_of_ble_eq_true rfl⟩) (fun r hw_6 => ?_)
      subst hw_6
      refine va_put (D := (dC, dI)) (ci := 3) (v := .int (mX2_reach f8 ho fr (nI b) p1)) (ty := .int) (C := RX3) (T := TX3) (N := 8) hx hb hta inA_X3 tyX3 tyX3_ok nmX3 hown hK hP hD hS 4 rfl rfl 7 (by decide) (hta _ aw_96) (fun _ h9 => h9) rfl (by decide +kernel) rfl rfl (Nat.le_of_ble_eq_true rfl) dX3_follow_154 (fun H locs hP hD hS => ?_)
      have hP : va_P (dC, dI) vwCl (CWl a k LP N L f1 f2 f3 f4 f5 f6 f7 f8 rd1 (nI b) (-1 : Int32) (mX2_reach f8 ho fr (nI b) p1) n f14 lf1 wd ho ro pa1 rs E) H := hP
      have hD : va_D A (CWl a k LP N L f1 f2 f3 f4 f5 f6 f7 f8 rd1 (nI b) (-1 : Int32) (mX2_reach f8 ho fr (nI b) p1) n f14 lf1 wd ho ro pa1 rs E) := hD
      refine lv_aload_n hx hb dX3_follow_157 rfl (lv_at hl 1 rfl) ?_
      refine va_get (D := (dC, dI)) (ci := 3) (v := .int (mX2_reach f8 ho fr (nI b) p1)) (C := RX3) (T := TX3) (N := 8) hx hb hta inA_X3 hown hK hP 4 rfl rfl 7 (by decide) (hta _ aw_96) (fun _ h9 => h9) rfl dX3_follow_158 ?_
      refine lv_iconst (v := (-1)) hx hb dX3_follow_161 (by decide) ?_
      refine lv_icmp_ne (tgt := 178) hx hb dX3_follow_162 (by decide) (fun c_162_6 => ?_) (fun c_162_6 => ?_)
      · refine lv_iconst (v := 0) hx hb dX3_follow_178 (by decide) ?_
        exact W.iret (v := (0 : Int32)) hx hb hr (fun t ht hW => ⟨⟨(0 : Int32), (rd1, lf1, nI b, (-1 : Int32), mX2_reach f8 ho fr (nI b) p1, pa1), rfl, (by rw [hm]; unfold mFolT; rewrite [if_pos c_120_4]; rewrite [if_neg c_162_6]; (first | done | rfl)), by rw [ht]; exact hP, va_K.moved hW.alike hK, hD⟩, hS.F ht⟩) hS.2.2 dX3_follow_179
      · refine lv_aload_n hx hb dX3_follow_165 rfl (lv_at hl 1 rfl) ?_
        refine lv_bipush (v := 6) hx hb dX3_follow_166 (by decide) ?_
        refine lv_aload_n hx hb dX3_follow_168 rfl (lv_at hl 1 rfl) ?_
        refine va_get (D := (dC, dI)) (ci := 3) (v := .int (nI L)) (C := RX3) (T := TX3) (N := 8) hx hb hta inA_X3 hown hK hP 4 rfl rfl 1 (by decide) (hta _ aw_86) (fun _ h9 => h9) rfl dX3_follow_169 ?_
        have hFc : ∀ q, va_A (CWl a k LP N L f1 f2 f3 f4 f5 f6 f7 f8 rd1 (nI b) (-1 : Int32) (mX2_reach f8 ho fr (nI b) p1) n f14 lf1 wd ho ro pa1 rs E) H.size q → A q := cx_free hD hS hA
        refine va_calli (va_runV (As := [.int (6 : Int32), .int (nI L)]) (rest := []) ⟨hx, hb, hml, hown, hta⟩ (c_X3_stop l dC dI a k LP N L f1 f2 f3 f4 f5 f6 f7 f8 rd1 (nI b) (-1 : Int32) (mX2_reach f8 ho fr (nI b) p1) n f14 lf1 wd ho ro pa1 rs E H.size (6 : Int32) (nI L)) (cwV 2 hta (gV aw_395 aw_397 aw_6 aw_40 aw_398) rfl rfl rfl (by decide +kernel) ⟨Nat.le_of_ble_eq_true rfl, Nat.le_of_ble_eq_true rfl⟩) (cx_preVQ hK hP hN (va_recv hK hP (ci := 3) (q0 := 4) rfl rfl) hD) rfl rfl hl.1 rfl (lv_room (Nat.le_of_ble_eq_true rfl)) dX3_follow_172 ⟨Nat.le_of_ble_eq_true rfl, Nat.le_of_ble_eq_true rfl⟩) hS (fun q _ h => hFc q h) hFc (fun r_8 u t9 H1 locs ht hvm hw_8 hB hz1 hk1 hS => ?_)
        obtain ⟨f11_8, rfl⟩ : ∃ z, z = u := ⟨_, rfl⟩
        obtain ⟨hP, hK1, hD1⟩ := hB
        rw [ht] at hP
        have hD := hD1.weaken (fun _ _ _ h => hFc _ h)
        clear hFc hz1 hk1 hK1 hD1 ht hvm
        generalize H1 = H at hP hS ⊢
        have hP : va_P (dC, dI) vwCl (CWl a k LP N L f1 f2 f3 f4 f5 f6 f7 f8 rd1 (nI b) f11_8 (mX2_reach f8 ho fr (nI b) p1) n f14 lf1 wd ho ro pa1 rs E) H := hP
        have hD : va_D A (CWl a k LP N L f1 f2 f3 f4 f5 f6 f7 f8 rd1 (nI b) f11_8 (mX2_reach f8 ho fr (nI b) p1) n f14 lf1 wd ho ro pa1 rs E) := hD
        refine lv_goto (tgt := 179) hx hb dX3_follow_175 (by decide) ?_
        exact W.iret (v := r_8) hx hb hr (fun t ht hW => ⟨⟨r_8, (rd1, lf1, nI b, f11_8, mX2_reach f8 ho fr (nI b) p1, pa1), rfl, (by rw [hm]; unfold mFolT; rewrite [if_pos c_120_4]; rewrite [if_pos c_162_6]; cases hw_8; (first | done | rfl)), by rw [ht]; exact hP, va_K.moved hW.alike hK, hD⟩, hS.F ht⟩) hS.2.2 dX3_follow_179
    · refine lv_aload_n hx hb dX3_follow_123 rfl (lv_at hl 1 rfl) ?_
      refine lv_iload hx hb dX3_follow_124 (lv_at hl 0 rfl) ?_
      refine lv_aload_n hx hb dX3_follow_126 rfl (lv_at hl 1 rfl) ?_
      refine va_get (D := (dC, dI)) (ci := 3) (v := .int (nI L)) (C := RX3) (T := TX3) (N := 8) hx hb hta inA_X3 hown hK hP 4 rfl rfl 1 (by decide) (hta _ aw_86) (fun _ h9 => h9) rfl dX3_follow_127 ?_
      refine lv_iconst (v := 1) hx hb dX3_follow_130 (by decide) ?_
      refine lv_isub hx hb dX3_follow_131 ?_
      refine lv_iload hx hb dX3_follow_132 (lv_at hl 5 rfl) ?_
      refine lv_isub hx hb dX3_follow_134 ?_
      have hFc : ∀ q, va_A (CWl a k LP N L f1 f2 f3 f4 f5 f6 f7 f8 rd1 (nI b) (-1 : Int32) (-1 : Int32) n f14 lf1 wd ho ro pa1 rs E) H.size q → A q := cx_free hD hS hA
      refine va_calli (va_runV (As := [.int (mX3_leafFault (nI b) lf1 p2), .int (((nI L) - (1 : Int32)) - (nI b))]) (rest := []) ⟨hx, hb, hml, hown, hta⟩ (c_X3_stop l dC dI a k LP N L f1 f2 f3 f4 f5 f6 f7 f8 rd1 (nI b) (-1 : Int32) (-1 : Int32) n f14 lf1 wd ho ro pa1 rs E H.size (mX3_leafFault (nI b) lf1 p2) (((nI L) - (1 : Int32)) - (nI b))) (cwV 2 hta (gV aw_395 aw_397 aw_6 aw_40 aw_398) rfl rfl rfl (by decide +kernel) ⟨Nat.le_of_ble_eq_true rfl, Nat.le_of_ble_eq_true rfl⟩) (cx_preVQ hK hP hN (va_recv hK hP (ci := 3) (q0 := 4) rfl rfl) hD) rfl rfl hl.1 rfl (lv_room (Nat.le_of_ble_eq_true rfl)) dX3_follow_135 ⟨Nat.le_of_ble_eq_true rfl, Nat.le_of_ble_eq_true rfl⟩) hS (fun q _ h => hFc q h) hFc (fun r_9 u t9 H1 locs ht hvm hw_9 hB hz1 hk1 hS => ?_)
      obtain ⟨f11_9, rfl⟩ : ∃ z, z = u := ⟨_, rfl⟩
      obtain ⟨hP, hK1, hD1⟩ := hB
      rw [ht] at hP
      have hD := hD1.weaken (fun _ _ _ h => hFc _ h)
      clear hFc hz1 hk1 hK1 hD1 ht hvm
      generalize H1 = H at hP hS ⊢
      have hP : va_P (dC, dI) vwCl (CWl a k LP N L f1 f2 f3 f4 f5 f6 f7 f8 rd1 (nI b) f11_9 (-1 : Int32) n f14 lf1 wd ho ro pa1 rs E) H := hP
      have hD : va_D A (CWl a k LP N L f1 f2 f3 f4 f5 f6 f7 f8 rd1 (nI b) f11_9 (-1 : Int32) n f14 lf1 wd ho ro pa1 rs E) := hD
      exact W.iret (v := r_9) hx hb hr (fun t ht hW => ⟨⟨r_9, (rd1, lf1, nI b, f11_9, (-1 : Int32), pa1), rfl, (by rw [hm]; unfold mFolT; rewrite [if_neg c_120_4]; cases hw_9; (first | done | rfl)), by rw [ht]; exact hP, va_K.moved hW.alike hK, hD⟩, hS.F ht⟩) hS.2.2 dX3_follow_138
  have loop : ∀ (b x : Nat) (fr : Int32) (rd1 : Nat) (lf1 : Int64) (pa1 : Nat → Int32), x = b + 1 → rd1 + b < 4 → ¬ fr < 0 → mFol L f8 wd ho f10 lf pa p0 p1 p2 = mFolL L f8 wd ho p1 p2 f10 b fr rd1 lf1 pa1 → ∀ (H : Heap) (locs : List Loc), va_P (dC, dI) vwCl (CWl a k LP N L f1 f2 f3 f4 f5 f6 f7 f8 rd1 f10 (-1 : Int32) (-1 : Int32) n f14 lf1 wd ho ro pa1 rs E) H → va_D A (CWl a k LP N L f1 f2 f3 f4 f5 f6 f7 f8 rd1 f10 (-1 : Int32) (-1 : Int32) n f14 lf1 wd ho ro pa1 rs E) → va_S A s.heap H locs → ∀ (ls : Array Slot), lv_has ls 7 [(5, .int (nI x)), (4, .int fr), (0, .ref (a 4)), (2, .int p1), (3, .int p2)] → W p l e ({ frames := 2, cells := 0, slots := 0, locals := 46 }) s m [.ref (a 4), .int p0, .int p1, .int p2].toArray below meth c H locs 0 0 (MQ below (va_Qi (fun (r : Int32) (u : Nat × Int64 × Int32 × Int32 × Int32 × (Nat → Int32)) => (r, u) = mFol L f8 wd ho f10 lf pa p0 p1 p2) (fun (u : Nat × Int64 × Int32 × Int32 × Int32 × (Nat → Int32)) (t : State) => match u with | (rd', lf', f10', f11', f12', pa') => va_P (dC, dI) vwCl (CWl a k LP N L f1 f2 f3 f4 f5 f6 f7 f8 rd' f10' f11' f12' n f14 lf' wd ho ro pa' rs E) t.heap ∧ va_K (dC, dI) vwCl [(k 0, .long), (k 1, .int), (k 2, .int), (k 3, .object "PageRows$Entry"), (k 4, .int)] t ∧ va_D A (CWl a k LP N L f1 f2 f3 f4 f5 f6 f7 f8 rd' f10' f11' f12' n f14 lf' wd ho ro pa' rs E)) A) [.ref (a 4), .int p0, .int p1, .int p2].toArray s 0 0 A) (F0 m 39 ls []) := by
    intro b
    induction b with
    | zero =>
      intro x fr rd1 lf1 pa1 hxb hrd hfr hm H locs hP hD hS ls hl
      refine lv_iinc (v := nI 0) (lv' := [(5, .int (nI 0)), (4, .int fr), (0, .ref (a 4)), (2, .int p1), (3, .int p2)]) hx hb dX3_follow_39 hl (k := 0) rfl (by rw [hxb]; exact cx_dec 0 rfl) (by decide) rfl (fun ls hl => ?_)
      refine lv_aload_n hx hb dX3_follow_42 rfl (lv_at hl 2 rfl) ?_
      refine lv_iload hx hb dX3_follow_43 (lv_at hl 1 rfl) ?_
      refine lv_iload_n hx hb dX3_follow_45 rfl (lv_at hl 3 rfl) ?_
      refine lv_iload hx hb dX3_follow_46 (lv_at hl 0 rfl) ?_
      refine cx_callSi (va_runSN (As := [.int (nI 0)]) (rest := [.int p1, .int fr, .ref (a 4)]) ⟨hx, hb, hml, hown, hta⟩ (c_X4_bitsBelow l (nI 0)) ⟨va_cnB 1 hta (gC aw_372) rfl rfl rfl (hN.nm 8 rfl) (hta _ aw_38) (by decide +kernel) ⟨Nat.le_of_ble_eq_true rfl, Nat.le_of_ble_eq_true rfl⟩, (hta _ aw_371), trivial⟩ cx_pre0 rfl rfl hl.1 rfl (lv_room (Nat.le_of_ble_eq_true rfl)) dX3_follow_48 ⟨Nat.le_of_ble_eq_true rfl, Nat.le_of_ble_eq_true rfl⟩) (fun r hw_10 => ?_)
      subst hw_10
      refine lv_ishr hx hb dX3_follow_51 ?_
      have hFc : ∀ q, va_A (CWl a k LP N L f1 f2 f3 f4 f5 f6 f7 f8 rd1 f10 (-1 : Int32) (-1 : Int32) n f14 lf1 wd ho ro pa1 rs E) H.size q → A q := cx_free hD hS hA
      refine va_calli (va_runV (As := [.int fr, .int (p1 >>> ((mX4_bitsBelow (nI 0)) &&& 31))]) (rest := []) ⟨hx, hb, hml, hown, hta⟩ (c_X3_read l dC dI a k LP N L f1 f2 f3 f4 f5 f6 f7 f8 rd1 f10 (-1 : Int32) (-1 : Int32) n f14 lf1 wd ho ro pa1 rs E H.size fr (p1 >>> ((mX4_bitsBelow (nI 0)) &&& 31)) (home_ok hho hfr) (by omega)) (cwV 2 hta (gV aw_399 aw_401 aw_7 aw_40 aw_402) rfl rfl rfl (by decide +kernel) ⟨Nat.le_of_ble_eq_true rfl, Nat.le_of_ble_eq_true rfl⟩) (cx_preVQ hK hP hN (va_recv hK hP (ci := 3) (q0 := 4) rfl rfl) hD) rfl rfl hl.1 rfl (lv_room (Nat.le_of_ble_eq_true rfl)) dX3_follow_52 ⟨Nat.le_of_ble_eq_true rfl, Nat.le_of_ble_eq_true rfl⟩) hS (fun q _ h => hFc q h) hFc (fun r_11 u t9 H1 locs ht hvm hw_11 hB hz1 hk1 hS => ?_)
      obtain ⟨rd_11, lf_11, pa_11⟩ := u
      obtain ⟨hP, hK1, hD1⟩ := hB
      rw [ht] at hP
      have hD := hD1.weaken (fun _ _ _ h => hFc _ h)
      clear hFc hz1 hk1 hK1 hD1 ht hvm
      generalize H1 = H at hP hS ⊢
      have hP : va_P (dC, dI) vwCl (CWl a k LP N L f1 f2 f3 f4 f5 f6 f7 f8 rd_11 f10 (-1 : Int32) (-1 : Int32) n f14 lf_11 wd ho ro pa_11 rs E) H := hP
      have hD : va_D A (CWl a k LP N L f1 f2 f3 f4 f5 f6 f7 f8 rd_11 f10 (-1 : Int32) (-1 : Int32) n f14 lf_11 wd ho ro pa_11 rs E) := hD
      refine lv_istore (lv' := [(6, .int r_11), (5, .int (nI 0)), (4, .int fr), (0, .ref (a 4)), (2, .int p1), (3, .int p2)]) hx hb dX3_follow_55 hl (by decide) rfl (fun ls hl => ?_)
      refine lv_iload hx hb dX3_follow_57 (lv_at hl 0 rfl) ?_
      refine lv_if_eq (tgt := 78) hx hb dX3_follow_59 (by decide) (fun c_59_11 => ?_) (fun c_59_11 => ?_)
      · refine lv_aload_n hx hb dX3_follow_78 rfl (lv_at hl 3 rfl) ?_
        refine va_get (D := (dC, dI)) (ci := 3) (v := .long lf_11) (C := RX3) (T := TX3) (N := 8) hx hb hta inA_X3 hown hK hP 4 rfl rfl 4 (by decide) (hta _ aw_90) (fun _ h9 => h9) rfl dX3_follow_79 ?_
        refine cx_callSi (va_runSN (As := [.long lf_11]) (rest := []) ⟨hx, hb, hml, hown, hta⟩ (c_X4_frameOf l lf_11) ⟨va_cnB 1 hta (gC aw_409) rfl rfl rfl (hN.nm 10 rfl) (hta _ aw_38) (by decide +kernel) ⟨Nat.le_of_ble_eq_true rfl, Nat.le_of_ble_eq_true rfl⟩, (hta _ aw_408), trivial⟩ cx_pre0 rfl rfl hl.1 rfl (lv_room (Nat.le_of_ble_eq_true rfl)) dX3_follow_82 ⟨Nat.le_of_ble_eq_true rfl, Nat.le_of_ble_eq_true rfl⟩) (fun r hw_13 => ?_)
        subst hw_13
        refine lv_istore (lv' := [(4, .int (mX4_frameOf lf_11)), (6, .int r_11), (5, .int (nI 0)), (0, .ref (a 4)), (2, .int p1), (3, .int p2)]) hx hb dX3_follow_85 hl (by decide) rfl (fun ls hl => ?_)
        refine lv_iload hx hb dX3_follow_87 (lv_at hl 2 rfl) ?_
        refine lv_if_le (tgt := 105) hx hb dX3_follow_89 (by decide) (fun c_89_13 => ?_) (fun c_89_13 => ?_)
        · exact tail 0 _ _ _ _ _ (by rewrite [hm, mFolL]; rewrite [← hw_11]; (try dsimp only); rewrite [if_pos c_59_11]; (first | done | rfl)) H locs hP hD hS ls (lv_sub hl [3, 4, 5, 0, 2] rfl)
        · exact absurd (show nI 0 ≤ 0 by decide) c_89_13
      · refine lv_aload_n hx hb dX3_follow_62 rfl (lv_at hl 3 rfl) ?_
        refine lv_iload hx hb dX3_follow_63 (lv_at hl 0 rfl) ?_
        refine lv_aload_n hx hb dX3_follow_65 rfl (lv_at hl 3 rfl) ?_
        refine va_get (D := (dC, dI)) (ci := 3) (v := .int (nI L)) (C := RX3) (T := TX3) (N := 8) hx hb hta inA_X3 hown hK hP 4 rfl rfl 1 (by decide) (hta _ aw_86) (fun _ h9 => h9) rfl dX3_follow_66 ?_
        refine lv_iconst (v := 1) hx hb dX3_follow_69 (by decide) ?_
        refine lv_isub hx hb dX3_follow_70 ?_
        refine lv_iload hx hb dX3_follow_71 (lv_at hl 1 rfl) ?_
        refine lv_isub hx hb dX3_follow_73 ?_
        have hFc : ∀ q, va_A (CWl a k LP N L f1 f2 f3 f4 f5 f6 f7 f8 rd_11 f10 (-1 : Int32) (-1 : Int32) n f14 lf_11 wd ho ro pa_11 rs E) H.size q → A q := cx_free hD hS hA
        refine va_calli (va_runV (As := [.int r_11, .int (((nI L) - (1 : Int32)) - (nI 0))]) (rest := []) ⟨hx, hb, hml, hown, hta⟩ (c_X3_stop l dC dI a k LP N L f1 f2 f3 f4 f5 f6 f7 f8 rd_11 f10 (-1 : Int32) (-1 : Int32) n f14 lf_11 wd ho ro pa_11 rs E H.size r_11 (((nI L) - (1 : Int32)) - (nI 0))) (cwV 2 hta (gV aw_395 aw_397 aw_6 aw_40 aw_398) rfl rfl rfl (by decide +kernel) ⟨Nat.le_of_ble_eq_true rfl, Nat.le_of_ble_eq_true rfl⟩) (cx_preVQ hK hP hN (va_recv hK hP (ci := 3) (q0 := 4) rfl rfl) hD) rfl rfl hl.1 rfl (lv_room (Nat.le_of_ble_eq_true rfl)) dX3_follow_74 ⟨Nat.le_of_ble_eq_true rfl, Nat.le_of_ble_eq_true rfl⟩) hS (fun q _ h => hFc q h) hFc (fun r_15 u t9 H1 locs ht hvm hw_15 hB hz1 hk1 hS => ?_)
        obtain ⟨f11_15, rfl⟩ : ∃ z, z = u := ⟨_, rfl⟩
        obtain ⟨hP, hK1, hD1⟩ := hB
        rw [ht] at hP
        have hD := hD1.weaken (fun _ _ _ h => hFc _ h)
        clear hFc hz1 hk1 hK1 hD1 ht hvm
        generalize H1 = H at hP hS ⊢
        have hP : va_P (dC, dI) vwCl (CWl a k LP N L f1 f2 f3 f4 f5 f6 f7 f8 rd_11 f10 f11_15 (-1 : Int32) n f14 lf_11 wd ho ro pa_11 rs E) H := hP
        have hD : va_D A (CWl a k LP N L f1 f2 f3 f4 f5 f6 f7 f8 rd_11 f10 f11_15 (-1 : Int32) n f14 lf_11 wd ho ro pa_11 rs E) := hD
        exact W.iret (v := r_15) hx hb hr (fun t ht hW => ⟨⟨r_15, (rd_11, lf_11, f10, f11_15, (-1 : Int32), pa_11), rfl, (by cases hw_15; rewrite [hm, mFolL]; rewrite [← hw_11]; (try dsimp only); rewrite [if_neg c_59_11]; (try dsimp only); (first | done | rfl)), by rw [ht]; exact hP, va_K.moved hW.alike hK, hD⟩, hS.F ht⟩) hS.2.2 dX3_follow_77
    | succ b ih =>
      intro x fr rd1 lf1 pa1 hxb hrd hfr hm H locs hP hD hS ls hl
      refine lv_iinc (v := nI (b + 1)) (lv' := [(5, .int (nI (b + 1))), (4, .int fr), (0, .ref (a 4)), (2, .int p1), (3, .int p2)]) hx hb dX3_follow_39 hl (k := 0) rfl (by rw [hxb]; exact cx_dec (b + 1) rfl) (by decide) rfl (fun ls hl => ?_)
      refine lv_aload_n hx hb dX3_follow_42 rfl (lv_at hl 2 rfl) ?_
      refine lv_iload hx hb dX3_follow_43 (lv_at hl 1 rfl) ?_
      refine lv_iload_n hx hb dX3_follow_45 rfl (lv_at hl 3 rfl) ?_
      refine lv_iload hx hb dX3_follow_46 (lv_at hl 0 rfl) ?_
      refine cx_callSi (va_runSN (As := [.int (nI (b + 1))]) (rest := [.int p1, .int fr, .ref (a 4)]) ⟨hx, hb, hml, hown, hta⟩ (c_X4_bitsBelow l (nI (b + 1))) ⟨va_cnB 1 hta (gC aw_372) rfl rfl rfl (hN.nm 8 rfl) (hta _ aw_38) (by decide +kernel) ⟨Nat.le_of_ble_eq_true rfl, Nat.le_of_ble_eq_true rfl⟩, (hta _ aw_371), trivial⟩ cx_pre0 rfl rfl hl.1 rfl (lv_room (Nat.le_of_ble_eq_true rfl)) dX3_follow_48 ⟨Nat.le_of_ble_eq_true rfl, Nat.le_of_ble_eq_true rfl⟩) (fun r hw_16 => ?_)
      subst hw_16
      refine lv_ishr hx hb dX3_follow_51 ?_
      have hFc : ∀ q, va_A (CWl a k LP N L f1 f2 f3 f4 f5 f6 f7 f8 rd1 f10 (-1 : Int32) (-1 : Int32) n f14 lf1 wd ho ro pa1 rs E) H.size q → A q := cx_free hD hS hA
      refine va_calli (va_runV (As := [.int fr, .int (p1 >>> ((mX4_bitsBelow (nI (b + 1))) &&& 31))]) (rest := []) ⟨hx, hb, hml, hown, hta⟩ (c_X3_read l dC dI a k LP N L f1 f2 f3 f4 f5 f6 f7 f8 rd1 f10 (-1 : Int32) (-1 : Int32) n f14 lf1 wd ho ro pa1 rs E H.size fr (p1 >>> ((mX4_bitsBelow (nI (b + 1))) &&& 31)) (home_ok hho hfr) (by omega)) (cwV 2 hta (gV aw_399 aw_401 aw_7 aw_40 aw_402) rfl rfl rfl (by decide +kernel) ⟨Nat.le_of_ble_eq_true rfl, Nat.le_of_ble_eq_true rfl⟩) (cx_preVQ hK hP hN (va_recv hK hP (ci := 3) (q0 := 4) rfl rfl) hD) rfl rfl hl.1 rfl (lv_room (Nat.le_of_ble_eq_true rfl)) dX3_follow_52 ⟨Nat.le_of_ble_eq_true rfl, Nat.le_of_ble_eq_true rfl⟩) hS (fun q _ h => hFc q h) hFc (fun r_17 u t9 H1 locs ht hvm hw_17 hB hz1 hk1 hS => ?_)
      obtain ⟨rd_17, lf_17, pa_17⟩ := u
      obtain ⟨hP, hK1, hD1⟩ := hB
      rw [ht] at hP
      have hD := hD1.weaken (fun _ _ _ h => hFc _ h)
      clear hFc hz1 hk1 hK1 hD1 ht hvm
      generalize H1 = H at hP hS ⊢
      have hP : va_P (dC, dI) vwCl (CWl a k LP N L f1 f2 f3 f4 f5 f6 f7 f8 rd_17 f10 (-1 : Int32) (-1 : Int32) n f14 lf_17 wd ho ro pa_17 rs E) H := hP
      have hD : va_D A (CWl a k LP N L f1 f2 f3 f4 f5 f6 f7 f8 rd_17 f10 (-1 : Int32) (-1 : Int32) n f14 lf_17 wd ho ro pa_17 rs E) := hD
      refine lv_istore (lv' := [(6, .int r_17), (5, .int (nI (b + 1))), (4, .int fr), (0, .ref (a 4)), (2, .int p1), (3, .int p2)]) hx hb dX3_follow_55 hl (by decide) rfl (fun ls hl => ?_)
      refine lv_iload hx hb dX3_follow_57 (lv_at hl 0 rfl) ?_
      refine lv_if_eq (tgt := 78) hx hb dX3_follow_59 (by decide) (fun c_59_17 => ?_) (fun c_59_17 => ?_)
      · refine lv_aload_n hx hb dX3_follow_78 rfl (lv_at hl 3 rfl) ?_
        refine va_get (D := (dC, dI)) (ci := 3) (v := .long lf_17) (C := RX3) (T := TX3) (N := 8) hx hb hta inA_X3 hown hK hP 4 rfl rfl 4 (by decide) (hta _ aw_90) (fun _ h9 => h9) rfl dX3_follow_79 ?_
        refine cx_callSi (va_runSN (As := [.long lf_17]) (rest := []) ⟨hx, hb, hml, hown, hta⟩ (c_X4_frameOf l lf_17) ⟨va_cnB 1 hta (gC aw_409) rfl rfl rfl (hN.nm 10 rfl) (hta _ aw_38) (by decide +kernel) ⟨Nat.le_of_ble_eq_true rfl, Nat.le_of_ble_eq_true rfl⟩, (hta _ aw_408), trivial⟩ cx_pre0 rfl rfl hl.1 rfl (lv_room (Nat.le_of_ble_eq_true rfl)) dX3_follow_82 ⟨Nat.le_of_ble_eq_true rfl, Nat.le_of_ble_eq_true rfl⟩) (fun r hw_19 => ?_)
        subst hw_19
        refine lv_istore (lv' := [(4, .int (mX4_frameOf lf_17)), (6, .int r_17), (5, .int (nI (b + 1))), (0, .ref (a 4)), (2, .int p1), (3, .int p2)]) hx hb dX3_follow_85 hl (by decide) rfl (fun ls hl => ?_)
        refine lv_iload hx hb dX3_follow_87 (lv_at hl 2 rfl) ?_
        refine lv_if_le (tgt := 105) hx hb dX3_follow_89 (by decide) (fun c_89_19 => ?_) (fun c_89_19 => ?_)
        · exact absurd c_89_19 (nI_nle (by omega) (by omega))
        · refine lv_aload_n hx hb dX3_follow_92 rfl (lv_at hl 3 rfl) ?_
          refine va_get (D := (dC, dI)) (ci := 3) (v := .long lf_17) (C := RX3) (T := TX3) (N := 8) hx hb hta inA_X3 hown hK hP 4 rfl rfl 4 (by decide) (hta _ aw_90) (fun _ h9 => h9) rfl dX3_follow_93 ?_
          refine lv_ldc2 (v := 32) hx hb hown (hta _ aw_411) dX3_follow_96 ?_
          refine lv_land hx hb dX3_follow_99 ?_
          refine lv_lconst (v := 0) hx hb dX3_follow_100 (by decide) ?_
          refine W.lcmp hx hb dX3_follow_101 ?_
          refine lv_if_eq (tgt := 39) hx hb dX3_follow_102 (by decide) (fun c_102_20 => ?_) (fun c_102_20 => ?_)
          · have hr9 := read_rd hw_17
            exact ih _ _ _ _ _ rfl (by omega) (frameOf_nn _) (by rewrite [hm, mFolL]; rewrite [← hw_17]; (try dsimp only); rewrite [if_pos c_59_17]; rewrite [if_pos c_102_20]; (first | done | rfl)) H locs hP hD hS ls (lv_sub hl [2, 0, 3, 4, 5] rfl)
          · exact tail (b + 1) _ _ _ _ _ (by rewrite [hm, mFolL]; rewrite [← hw_17]; (try dsimp only); rewrite [if_pos c_59_17]; rewrite [if_neg c_102_20]; (first | done | rfl)) H locs hP hD hS ls (lv_sub hl [3, 4, 5, 0, 2] rfl)
      · refine lv_aload_n hx hb dX3_follow_62 rfl (lv_at hl 3 rfl) ?_
        refine lv_iload hx hb dX3_follow_63 (lv_at hl 0 rfl) ?_
        refine lv_aload_n hx hb dX3_follow_65 rfl (lv_at hl 3 rfl) ?_
        refine va_get (D := (dC, dI)) (ci := 3) (v := .int (nI L)) (C := RX3) (T := TX3) (N := 8) hx hb hta inA_X3 hown hK hP 4 rfl rfl 1 (by decide) (hta _ aw_86) (fun _ h9 => h9) rfl dX3_follow_66 ?_
        refine lv_iconst (v := 1) hx hb dX3_follow_69 (by decide) ?_
        refine lv_isub hx hb dX3_follow_70 ?_
        refine lv_iload hx hb dX3_follow_71 (lv_at hl 1 rfl) ?_
        refine lv_isub hx hb dX3_follow_73 ?_
        have hFc : ∀ q, va_A (CWl a k LP N L f1 f2 f3 f4 f5 f6 f7 f8 rd_17 f10 (-1 : Int32) (-1 : Int32) n f14 lf_17 wd ho ro pa_17 rs E) H.size q → A q := cx_free hD hS hA
        refine va_calli (va_runV (As := [.int r_17, .int (((nI L) - (1 : Int32)) - (nI (b + 1)))]) (rest := []) ⟨hx, hb, hml, hown, hta⟩ (c_X3_stop l dC dI a k LP N L f1 f2 f3 f4 f5 f6 f7 f8 rd_17 f10 (-1 : Int32) (-1 : Int32) n f14 lf_17 wd ho ro pa_17 rs E H.size r_17 (((nI L) - (1 : Int32)) - (nI (b + 1)))) (cwV 2 hta (gV aw_395 aw_397 aw_6 aw_40 aw_398) rfl rfl rfl (by decide +kernel) ⟨Nat.le_of_ble_eq_true rfl, Nat.le_of_ble_eq_true rfl⟩) (cx_preVQ hK hP hN (va_recv hK hP (ci := 3) (q0 := 4) rfl rfl) hD) rfl rfl hl.1 rfl (lv_room (Nat.le_of_ble_eq_true rfl)) dX3_follow_74 ⟨Nat.le_of_ble_eq_true rfl, Nat.le_of_ble_eq_true rfl⟩) hS (fun q _ h => hFc q h) hFc (fun r_22 u t9 H1 locs ht hvm hw_22 hB hz1 hk1 hS => ?_)
        obtain ⟨f11_22, rfl⟩ : ∃ z, z = u := ⟨_, rfl⟩
        obtain ⟨hP, hK1, hD1⟩ := hB
        rw [ht] at hP
        have hD := hD1.weaken (fun _ _ _ h => hFc _ h)
        clear hFc hz1 hk1 hK1 hD1 ht hvm
        generalize H1 = H at hP hS ⊢
        have hP : va_P (dC, dI) vwCl (CWl a k LP N L f1 f2 f3 f4 f5 f6 f7 f8 rd_17 f10 f11_22 (-1 : Int32) n f14 lf_17 wd ho ro pa_17 rs E) H := hP
        have hD : va_D A (CWl a k LP N L f1 f2 f3 f4 f5 f6 f7 f8 rd_17 f10 f11_22 (-1 : Int32) n f14 lf_17 wd ho ro pa_17 rs E) := hD
        exact W.iret (v := r_22) hx hb hr (fun t ht hW => ⟨⟨r_22, (rd_17, lf_17, f10, f11_22, (-1 : Int32), pa_17), rfl, (by cases hw_22; rewrite [hm, mFolL]; rewrite [← hw_17]; (try dsimp only); rewrite [if_neg c_59_17]; (try dsimp only); (first | done | rfl)), by rw [ht]; exact hP, va_K.moved hW.alike hK, hD⟩, hS.F ht⟩) hS.2.2 dX3_follow_77
  refine lv_aload_n hx hb dX3_follow_0 rfl (lv_at hl 0 rfl) ?_
  refine lv_iconst (v := 0) hx hb dX3_follow_1 (by decide) ?_
  refine va_put (D := (dC, dI)) (ci := 3) (v := .int (0 : Int32)) (ty := .int) (C := RX3) (T := TX3) (N := 8) hx hb hta inA_X3 tyX3 tyX3_ok nmX3 hown hK hP hD hS 4 rfl rfl 3 (by decide) (hta _ aw_88) (fun _ h9 => h9) rfl (by decide +kernel) rfl rfl (Nat.le_of_ble_eq_true rfl) dX3_follow_2 (fun H locs hP hD hS => ?_)
  have hP : va_P (dC, dI) vwCl (CWl a k LP N L f1 f2 f3 f4 f5 f6 f7 f8 0 f10 f11 f12 n f14 lf wd ho ro pa rs E) H := hP
  have hD : va_D A (CWl a k LP N L f1 f2 f3 f4 f5 f6 f7 f8 0 f10 f11 f12 n f14 lf wd ho ro pa rs E) := hD
  refine lv_aload_n hx hb dX3_follow_5 rfl (lv_at hl 0 rfl) ?_
  refine lv_iconst (v := (-1)) hx hb dX3_follow_6 (by decide) ?_
  refine va_put (D := (dC, dI)) (ci := 3) (v := .int (-1 : Int32)) (ty := .int) (C := RX3) (T := TX3) (N := 8) hx hb hta inA_X3 tyX3 tyX3_ok nmX3 hown hK hP hD hS 4 rfl rfl 6 (by decide) (hta _ aw_94) (fun _ h9 => h9) rfl (by decide +kernel) rfl rfl (Nat.le_of_ble_eq_true rfl) dX3_follow_7 (fun H locs hP hD hS => ?_)
  have hP : va_P (dC, dI) vwCl (CWl a k LP N L f1 f2 f3 f4 f5 f6 f7 f8 0 f10 (-1 : Int32) f12 n f14 lf wd ho ro pa rs E) H := hP
  have hD : va_D A (CWl a k LP N L f1 f2 f3 f4 f5 f6 f7 f8 0 f10 (-1 : Int32) f12 n f14 lf wd ho ro pa rs E) := hD
  refine lv_aload_n hx hb dX3_follow_10 rfl (lv_at hl 0 rfl) ?_
  refine lv_iconst (v := (-1)) hx hb dX3_follow_11 (by decide) ?_
  refine va_put (D := (dC, dI)) (ci := 3) (v := .int (-1 : Int32)) (ty := .int) (C := RX3) (T := TX3) (N := 8) hx hb hta inA_X3 tyX3 tyX3_ok nmX3 hown hK hP hD hS 4 rfl rfl 7 (by decide) (hta _ aw_96) (fun _ h9 => h9) rfl (by decide +kernel) rfl rfl (Nat.le_of_ble_eq_true rfl) dX3_follow_12 (fun H locs hP hD hS => ?_)
  have hP : va_P (dC, dI) vwCl (CWl a k LP N L f1 f2 f3 f4 f5 f6 f7 f8 0 f10 (-1 : Int32) (-1 : Int32) n f14 lf wd ho ro pa rs E) H := hP
  have hD : va_D A (CWl a k LP N L f1 f2 f3 f4 f5 f6 f7 f8 0 f10 (-1 : Int32) (-1 : Int32) n f14 lf wd ho ro pa rs E) := hD
  refine lv_aload_n hx hb dX3_follow_15 rfl (lv_at hl 0 rfl) ?_
  refine lv_iload_n hx hb dX3_follow_16 rfl (lv_at hl 2 rfl) ?_
  refine cx_callSi (va_runV (As := [.int p1]) (rest := []) ⟨hx, hb, hml, hown, hta⟩ (c_X3_isOutside l dC dI a k LP N L f1 f2 f3 f4 f5 f6 f7 f8 0 f10 (-1 : Int32) (-1 : Int32) n f14 lf wd ho ro pa rs E p1) (cwV 1 hta (gV aw_390 aw_392 aw_5 aw_40 aw_393) rfl rfl rfl (by decide +kernel) ⟨Nat.le_of_ble_eq_true rfl, Nat.le_of_ble_eq_true rfl⟩) (cx_preVS hK hP hN (va_recv hK hP (ci := 3) (q0 := 4) rfl rfl)) rfl rfl hl.1 rfl (lv_room (Nat.le_of_ble_eq_true rfl)) dX3_follow_17 ⟨Nat.le_of_ble_eq_true rfl, Nat.le_of_ble_eq_true rfl⟩) (fun r hw_1 => ?_)
  subst hw_1
  refine lv_if_eq (tgt := 30) hx hb dX3_follow_20 (by decide) (fun c_20_1 => ?_) (fun c_20_1 => ?_)
  · refine lv_iload_n hx hb dX3_follow_30 rfl (lv_at hl 1 rfl) ?_
    refine lv_istore (lv' := [(4, .int p0), (0, .ref (a 4)), (1, .int p0), (2, .int p1), (3, .int p2)]) hx hb dX3_follow_31 hl (by decide) rfl (fun ls hl => ?_)
    refine lv_aload_n hx hb dX3_follow_33 rfl (lv_at hl 1 rfl) ?_
    refine va_get (D := (dC, dI)) (ci := 3) (v := .int (nI L)) (C := RX3) (T := TX3) (N := 8) hx hb hta inA_X3 hown hK hP 4 rfl rfl 1 (by decide) (hta _ aw_86) (fun _ h9 => h9) rfl dX3_follow_34 ?_
    refine lv_istore (lv' := [(5, .int (nI L)), (4, .int p0), (0, .ref (a 4)), (1, .int p0), (2, .int p1), (3, .int p2)]) hx hb dX3_follow_37 hl (by decide) rfl (fun ls hl => ?_)
    exact loop (L - 1) L p0 0 lf pa (by omega) (by omega) hp0 (by unfold mFol; rewrite [if_pos c_20_1]; rfl) H locs hP hD hS ls (lv_sub hl [0, 1, 2, 4, 5] rfl)
  · refine lv_aload_n hx hb dX3_follow_23 rfl (lv_at hl 0 rfl) ?_
    refine lv_iconst (v := 1) hx hb dX3_follow_24 (by decide) ?_
    refine lv_iconst (v := 0) hx hb dX3_follow_25 (by decide) ?_
    have hFc : ∀ q, va_A (CWl a k LP N L f1 f2 f3 f4 f5 f6 f7 f8 0 f10 (-1 : Int32) (-1 : Int32) n f14 lf wd ho ro pa rs E) H.size q → A q := cx_free hD hS hA
    refine va_calli (va_runV (As := [.int (1 : Int32), .int (0 : Int32)]) (rest := []) ⟨hx, hb, hml, hown, hta⟩ (c_X3_stop l dC dI a k LP N L f1 f2 f3 f4 f5 f6 f7 f8 0 f10 (-1 : Int32) (-1 : Int32) n f14 lf wd ho ro pa rs E H.size (1 : Int32) (0 : Int32)) (cwV 2 hta (gV aw_395 aw_397 aw_6 aw_40 aw_398) rfl rfl rfl (by decide +kernel) ⟨Nat.le_of_ble_eq_true rfl, Nat.le_of_ble_eq_true rfl⟩) (cx_preVQ hK hP hN (va_recv hK hP (ci := 3) (q0 := 4) rfl rfl) hD) rfl rfl hl.1 rfl (lv_room (Nat.le_of_ble_eq_true rfl)) dX3_follow_26 ⟨Nat.le_of_ble_eq_true rfl, Nat.le_of_ble_eq_true rfl⟩) hS (fun q _ h => hFc q h) hFc (fun r_3 u t9 H1 locs ht hvm hw_3 hB hz1 hk1 hS => ?_)
    obtain ⟨f11_3, rfl⟩ : ∃ z, z = u := ⟨_, rfl⟩
    obtain ⟨hP, hK1, hD1⟩ := hB
    rw [ht] at hP
    have hD := hD1.weaken (fun _ _ _ h => hFc _ h)
    clear hFc hz1 hk1 hK1 hD1 ht hvm
    generalize H1 = H at hP hS ⊢
    have hP : va_P (dC, dI) vwCl (CWl a k LP N L f1 f2 f3 f4 f5 f6 f7 f8 0 f10 f11_3 (-1 : Int32) n f14 lf wd ho ro pa rs E) H := hP
    have hD : va_D A (CWl a k LP N L f1 f2 f3 f4 f5 f6 f7 f8 0 f10 f11_3 (-1 : Int32) n f14 lf wd ho ro pa rs E) := hD
    exact W.iret (v := r_3) hx hb hr (fun t ht hW => ⟨⟨r_3, (0, lf, f10, f11_3, (-1 : Int32), pa), rfl, (by cases hw_3; unfold mFol; rewrite [if_neg c_20_1]; rfl), by rw [ht]; exact hP, va_K.moved hW.alike hK, hD⟩, hS.F ht⟩) hS.2.2 dX3_follow_29
end
section
theorem read_ok {f8 : Int32} {rd : Nat} {lf : Int64} {wd : Nat → Int64} {ho pa : Nat → Int32} {p0 p1 r : Int32} {rd' : Nat} {lf' : Int64} {pa' : Nat → Int32} (h : (r, rd', lf', pa') = mX3_read f8 rd lf wd ho pa p0 p1) (h0 : ¬ mX2_homeOf f8 ho p0 = (-1 : Int32) → ¬ mX2_homeOf f8 ho p0 < 0) (hpa : ∀ i, i < rd → vp_in (pa i) 4096) : ∀ i, i < rd' → vp_in (pa' i) 4096 := by
  unfold mX3_read at h
  have key : ∀ at9 : Int32, vp_in at9 4096 → ∀ i, i < rd + 1 → vp_in (upd pa rd at9 i) 4096 := by
    intro at9 h9 i hi
    by_cases e : i = rd
    · subst e
      rw [pk_us]
      exact h9
    · rw [pk_un e]
      exact hpa i (by omega)
  split at h
  · cases h; exact hpa
  · rename_i c1
    split at h
    · rename_i c2
      split at h
      · cases h; exact key _ (cx_wordin (h0 c1) c2)
      · cases h; exact key _ (cx_wordin (h0 c1) c2)
    · cases h; exact hpa
theorem folT_ok {L : Nat} {f8 : Int32} {ho : Nat → Int32} {p1 p2 : Int32} {b : Nat} {fr : Int32} {rd : Nat} {lf : Int64} {pa : Nat → Int32} {r : Int32} {rd' : Nat} {lf' : Int64} {x y z : Int32} {pa' : Nat → Int32} (h : (r, rd', lf', x, y, z, pa') = mFolT L f8 ho p1 p2 b fr rd lf pa) : rd' = rd ∧ pa' = pa := by
  unfold mFolT at h
  split at h
  · split at h
    · cases h; exact ⟨rfl, rfl⟩
    · cases h; exact ⟨rfl, rfl⟩
  · cases h; exact ⟨rfl, rfl⟩
theorem folL_ok {L : Nat} {f8 : Int32} {wd : Nat → Int64} {ho : Nat → Int32} {p1 p2 f10 : Int32} (hho : HOK ho) : ∀ (b : Nat) (fr : Int32) (rd : Nat) (lf : Int64) (pa : Nat → Int32) {r : Int32} {rd' : Nat} {lf' : Int64} {x y z : Int32} {pa' : Nat → Int32}, ¬ fr < 0 → rd + b < 4 → (∀ i, i < rd → vp_in (pa i) 4096) → (r, rd', lf', x, y, z, pa') = mFolL L f8 wd ho p1 p2 f10 b fr rd lf pa → rd' ≤ 4 ∧ ∀ i, i < rd' → vp_in (pa' i) 4096 := by
  intro b
  induction b with
  | zero =>
    intro fr rd lf pa r rd' lf' x y z pa' hfr hrd hpa h
    unfold mFolL at h
    generalize hq : mX3_read f8 rd lf wd ho pa fr (p1 >>> (mX4_bitsBelow (nI 0) &&& 31)) = q at h
    obtain ⟨r1, rd1, lf1, pa1⟩ := q
    have e1 := read_rd hq.symm
    have e2 := read_ok hq.symm (home_ok hho hfr) hpa
    dsimp only at h
    split at h
    · obtain ⟨rfl, rfl⟩ := folT_ok h
      exact ⟨by omega, e2⟩
    · cases h
      exact ⟨by omega, e2⟩
  | succ b ih =>
    intro fr rd lf pa r rd' lf' x y z pa' hfr hrd hpa h
    unfold mFolL at h
    generalize hq : mX3_read f8 rd lf wd ho pa fr (p1 >>> (mX4_bitsBelow (nI (b + 1)) &&& 31)) = q at h
    obtain ⟨r1, rd1, lf1, pa1⟩ := q
    have e1 := read_rd hq.symm
    have e2 := read_ok hq.symm (home_ok hho hfr) hpa
    dsimp only at h
    split at h
    · split at h
      · exact ih _ _ _ _ (frameOf_nn _) (by omega) e2 h
      · obtain ⟨rfl, rfl⟩ := folT_ok h
        exact ⟨by omega, e2⟩
    · cases h
      exact ⟨by omega, e2⟩
theorem fol_ok {L : Nat} {f8 : Int32} {wd : Nat → Int64} {ho : Nat → Int32} {f10 : Int32} {lf : Int64} {pa : Nat → Int32} {p0 p1 p2 r : Int32} {rd' : Nat} {lf' : Int64} {x y z : Int32} {pa' : Nat → Int32} (h : (r, rd', lf', x, y, z, pa') = mFol L f8 wd ho f10 lf pa p0 p1 p2) (hL1 : 1 ≤ L) (hL4 : L ≤ 4) (hho : HOK ho) (hp0 : ¬ p0 < 0) : rd' ≤ 4 ∧ ∀ i, i < rd' → vp_in (pa' i) 4096 := by
  unfold mFol at h
  split at h
  · exact folL_ok hho (L - 1) p0 0 lf pa hp0 (by omega) (fun i hi => absurd hi (by omega)) h
  · cases h
    exact ⟨by omega, fun i hi => absurd hi (by omega)⟩
/-- PageRows.isStale -/
def mX4_isStale (L : Nat) (f1 : Int32) (f8 : Int32) (f10 : Int32) (lf : Int64) (wd : Nat → Int64) (ho : Nat → Int32) (ro : Nat → Int32) (pa : Nat → Int32) (E : Nat → Nat → Int32) (y0 : Nat) (p1 : Int32) : Int32 × Nat × Int64 × Int32 × Int32 × Int32 × (Nat → Int32) :=
  if (mX4_allows (E 4 y0) p1) = 0 then
    match mFol L f8 wd ho f10 lf pa (ro f1.toNatClampNeg) ((E 2 y0) <<< ((mX4_bitsBelow (E 1 y0)) &&& 31)) p1 with
    | (r_7, rd_7, lf_7, f10_7, f11_7, f12_7, pa_7) =>
      if (-1 : Int32) = f12_7 then
        ((0 : Int32), rd_7, lf_7, f10_7, f11_7, f12_7, pa_7)
      else
        ((1 : Int32), rd_7, lf_7, f10_7, f11_7, f12_7, pa_7)
  else
    match mFol L f8 wd ho f10 lf pa (ro f1.toNatClampNeg) ((E 2 y0) <<< ((mX4_bitsBelow (E 1 y0)) &&& 31)) p1 with
    | (r_12, rd_12, lf_12, f10_12, f11_12, f12_12, pa_12) =>
      if (mX2_reach f8 ho (E 3 y0) (E 1 y0) ((E 2 y0) <<< ((mX4_bitsBelow (E 1 y0)) &&& 31))) = f12_12 then
        ((0 : Int32), rd_12, lf_12, f10_12, f11_12, f12_12, pa_12)
      else
        ((1 : Int32), rd_12, lf_12, f10_12, f11_12, f12_12, pa_12)
set_option maxHeartbeats 4000000 in
set_option maxRecDepth 100000 in
theorem c_X4_isStale (l : Launch) (dC : Nat → ClassId) (dI : Nat → Nat → Nat) (a : Nat → Nat) (k : Nat → ClassId) (LP : List Nat) (N : Nat) (L : Nat) (f1 f2 f3 f4 f5 f6 f7 f8 : Int32) (rd : Nat) (f10 f11 f12 : Int32) (n : Nat) (f14 : Int32) (lf : Int64) (wd : Nat → Int64) (ho ro pa : Nat → Int32) (rs : Nat → Option Nat) (E : Nat → Nat → Int32) (y0 : Nat) (hy0 : y0 ∈ LP) (sz : Nat) (p1 : Int32) (hL1 : 1 ≤ L) (hL4 : L ≤ 4) (hho : HOK ho) (hf1 : vp_in f1 4) (hro : ¬ ro f1.toNatClampNeg < 0) : Met l yX4_isStale (wX4_isStale :: AW) ({ frames := 3, cells := 0, slots := 0, locals := 72 }) (va_Pc [.ref (a 0), .ref y0, .int p1] (CPrQ dC dI (CWl a k LP N L f1 f2 f3 f4 f5 f6 f7 f8 rd f10 f11 f12 n f14 lf wd ho ro pa rs E) [(k 0, .long), (k 1, .int), (k 2, .int), (k 3, .object "PageRows$Entry"), (k 4, .int)] sz)) (va_Qi (fun (r : Int32) (u : Nat × Int64 × Int32 × Int32 × Int32 × (Nat → Int32)) => (r, u) = mX4_isStale L f1 f8 f10 lf wd ho ro pa E y0 p1) (fun (u : Nat × Int64 × Int32 × Int32 × Int32 × (Nat → Int32)) (t : State) => match u with | (rd', lf', f10', f11', f12', pa') => va_P (dC, dI) vwCl (CWl a k LP N L f1 f2 f3 f4 f5 f6 f7 f8 rd' f10' f11' f12' n f14 lf' wd ho ro pa' rs E) t.heap ∧ va_K (dC, dI) vwCl [(k 0, .long), (k 1, .int), (k 2, .int), (k 3, .object "PageRows$Entry"), (k 4, .int)] t ∧ va_D (va_A (CWl a k LP N L f1 f2 f3 f4 f5 f6 f7 f8 rd f10 f11 f12 n f14 lf wd ho ro pa rs E) sz) (CWl a k LP N L f1 f2 f3 f4 f5 f6 f7 f8 rd' f10' f11' f12' n f14 lf' wd ho ro pa' rs E)) (va_A (CWl a k LP N L f1 f2 f3 f4 f5 f6 f7 f8 rd f10 f11 f12 n f14 lf wd ho ro pa rs E) sz)) 0 0 (va_A (CWl a k LP N L f1 f2 f3 f4 f5 f6 f7 f8 rd f10 f11 f12 n f14 lf wd ho ro pa rs E) sz) := by
  refine cx_of (cc := cX4_isStale) (maxL := 5) (ret := some .boolean) (by decide) rfl (Nat.le_of_ble_eq_true rfl) ?_
  intro p e s m below meth c ls hx hb hr hts hown hlocks hml hnm hl hB
  have hta : ∀ w ∈ AW, w.before [.ref (a 0), .ref y0, .int p1].toArray s = true := fun w h => hts w (List.mem_cons_of_mem _ h)
  have hl : lv_has ls 5 [(0, .ref (a 0)), (1, .ref y0), (2, .int p1)] := hl
  have hown : s.vm.findClass RX4 = some m.cls := hown
  obtain ⟨rfl, ⟨hP, hK, hN⟩, hD0⟩ := hB
  have hD := hD0.self (sz := s.heap.size)
  generalize hAe : va_A (CWl a k LP N L f1 f2 f3 f4 f5 f6 f7 f8 rd f10 f11 f12 n f14 lf wd ho ro pa rs E) s.heap.size = A at hD ⊢
  have hA : ∀ q : Nat, s.heap.size ≤ q → A q := fun q h => by rw [← hAe]; exact Or.inr h
  have hS : va_S A s.heap s.heap [] := va_S.rf
  refine lv_aload_n hx hb dX4_isStale_0 rfl (lv_at hl 1 rfl) ?_
  obtain ⟨k_1, hk_1⟩ := va_pl_get (X := (CWx a k N L f1 f2 f3 f4 f5 f6 f7 f8 rd f10 f11 f12 n f14 lf wd ho ro pa rs)) (f := (CEf E)) hy0
  refine va_getN (D := (dC, dI)) (ci := 1) (v := .int (E 2 y0)) (C := RX1) (T := TX1) (N := 6) hx hb hta inA_X1 hown hK hP k_1 hk_1 rfl 2 (by decide) (hN.nf 14 rfl) (fun _ h9 => h9) rfl dX4_isStale_1 ?_
  refine lv_aload_n hx hb dX4_isStale_4 rfl (lv_at hl 1 rfl) ?_
  obtain ⟨k_2, hk_2⟩ := va_pl_get (X := (CWx a k N L f1 f2 f3 f4 f5 f6 f7 f8 rd f10 f11 f12 n f14 lf wd ho ro pa rs)) (f := (CEf E)) hy0
  refine va_getN (D := (dC, dI)) (ci := 1) (v := .int (E 1 y0)) (C := RX1) (T := TX1) (N := 6) hx hb hta inA_X1 hown hK hP k_2 hk_2 rfl 1 (by decide) (hN.nf 12 rfl) (fun _ h9 => h9) rfl dX4_isStale_5 ?_
  refine cx_callSi (va_runS (As := [.int (E 1 y0)]) (rest := [.int (E 2 y0)]) ⟨hx, hb, hml, hown, hta⟩ (c_X4_bitsBelow l (E 1 y0)) (va_cwS 1 hta (gS aw_504 aw_371 aw_38 aw_372) rfl rfl rfl (by decide +kernel) ⟨Nat.le_of_ble_eq_true rfl, Nat.le_of_ble_eq_true rfl⟩) cx_pre0 rfl rfl hl.1 rfl (lv_room (Nat.le_of_ble_eq_true rfl)) dX4_isStale_8 ⟨Nat.le_of_ble_eq_true rfl, Nat.le_of_ble_eq_true rfl⟩) (fun r hw_3 => ?_)
  subst hw_3
  refine lv_ishl hx hb dX4_isStale_11 ?_
  refine lv_istore_n (lv' := [(3, .int ((E 2 y0) <<< ((mX4_bitsBelow (E 1 y0)) &&& 31))), (0, .ref (a 0)), (1, .ref y0), (2, .int p1)]) hx hb dX4_isStale_12 rfl hl (by decide) rfl (fun ls hl => ?_)
  refine lv_aload_n hx hb dX4_isStale_13 rfl (lv_at hl 2 rfl) ?_
  obtain ⟨k_4, hk_4⟩ := va_pl_get (X := (CWx a k N L f1 f2 f3 f4 f5 f6 f7 f8 rd f10 f11 f12 n f14 lf wd ho ro pa rs)) (f := (CEf E)) hy0
  refine va_getN (D := (dC, dI)) (ci := 1) (v := .int (E 4 y0)) (C := RX1) (T := TX1) (N := 6) hx hb hta inA_X1 hown hK hP k_4 hk_4 rfl 4 (by decide) (hN.nf 18 rfl) (fun _ h9 => h9) rfl dX4_isStale_14 ?_
  refine lv_iload_n hx hb dX4_isStale_17 rfl (lv_at hl 3 rfl) ?_
  refine cx_callSi (va_runS (As := [.int (E 4 y0), .int p1]) (rest := []) ⟨hx, hb, hml, hown, hta⟩ (c_X4_allows l (E 4 y0) p1) (va_cwS 2 hta (gS aw_379 aw_380 aw_38 aw_381) rfl rfl rfl (by decide +kernel) ⟨Nat.le_of_ble_eq_true rfl, Nat.le_of_ble_eq_true rfl⟩) cx_pre0 rfl rfl hl.1 rfl (lv_room (Nat.le_of_ble_eq_true rfl)) dX4_isStale_18 ⟨Nat.le_of_ble_eq_true rfl, Nat.le_of_ble_eq_true rfl⟩) (fun r hw_5 => ?_)
  subst hw_5
  refine lv_if_eq (tgt := 43) hx hb dX4_isStale_21 (by decide) (fun c_21_5 => ?_) (fun c_21_5 => ?_)
  · refine lv_iconst (v := (-1)) hx hb dX4_isStale_43 (by decide) ?_
    refine lv_istore (lv' := [(4, .int (-1 : Int32)), (3, .int ((E 2 y0) <<< ((mX4_bitsBelow (E 1 y0)) &&& 31))), (0, .ref (a 0)), (1, .ref y0), (2, .int p1)]) hx hb dX4_isStale_44 hl (by decide) rfl (fun ls hl => ?_)
    refine lv_aload_n hx hb dX4_isStale_46 rfl (lv_at hl 2 rfl) ?_
    refine va_get (D := (dC, dI)) (ci := 4) (v := .ref (a 4)) (C := RX4) (T := TX4) (N := 12) hx hb hta inA_X4 hown hK hP 0 rfl rfl 2 (by decide) (hta _ aw_174) (fun _ h9 => h9) rfl dX4_isStale_47 ?_
    refine lv_aload_n hx hb dX4_isStale_50 rfl (lv_at hl 2 rfl) ?_
    refine va_get (D := (dC, dI)) (ci := 4) (v := .ref (a 8)) (C := RX4) (T := TX4) (N := 12) hx hb hta inA_X4 hown hK hP 0 rfl rfl 4 (by decide) (hta _ aw_176) (fun _ h9 => h9) rfl dX4_isStale_51 ?_
    refine lv_aload_n hx hb dX4_isStale_54 rfl (lv_at hl 2 rfl) ?_
    refine va_get (D := (dC, dI)) (ci := 4) (v := .int f1) (C := RX4) (T := TX4) (N := 12) hx hb hta inA_X4 hown hK hP 0 rfl rfl 5 (by decide) (hta _ aw_177) (fun _ h9 => h9) rfl dX4_isStale_55 ?_
    refine va_iald hx hb hK hP 8 4 rfl rfl hf1 dX4_isStale_58 ?_
    refine lv_iload_n hx hb dX4_isStale_59 rfl (lv_at hl 1 rfl) ?_
    refine lv_iload_n hx hb dX4_isStale_60 rfl (lv_at hl 4 rfl) ?_
    have hFc : ∀ q, va_A (CWl a k LP N L f1 f2 f3 f4 f5 f6 f7 f8 rd f10 f11 f12 n f14 lf wd ho ro pa rs E) s.heap.size q → A q := cx_free hD hS hA
    refine va_calli (va_runVN (As := [.int (ro f1.toNatClampNeg), .int ((E 2 y0) <<< ((mX4_bitsBelow (E 1 y0)) &&& 31)), .int p1]) (rest := []) ⟨hx, hb, hml, hown, hta⟩ (c_X3_follow l dC dI a k LP N L f1 f2 f3 f4 f5 f6 f7 f8 rd f10 f11 f12 n f14 lf wd ho ro pa rs E s.heap.size (ro f1.toNatClampNeg) ((E 2 y0) <<< ((mX4_bitsBelow (E 1 y0)) &&& 31)) p1 hL1 hL4 hho hro) ⟨va_cnB 3 hta (gC aw_389) rfl rfl rfl (hN.nm 7 rfl) (hta _ aw_40) (by decide +kernel) ⟨Nat.le_of_ble_eq_true rfl, Nat.le_of_ble_eq_true rfl⟩, (hta _ aw_388), (hta _ aw_4)⟩ (cx_preVQ hK hP hN (va_recv hK hP (ci := 3) (q0 := 4) rfl rfl) hD) rfl rfl hl.1 rfl (lv_room (Nat.le_of_ble_eq_true rfl)) dX4_isStale_61 ⟨Nat.le_of_ble_eq_true rfl, Nat.le_of_ble_eq_true rfl⟩) hS (fun q _ h => hFc q h) hFc (fun r_7 u t9 H1 locs ht hvm hw_7 hB hz1 hk1 hS => ?_)
    obtain ⟨rd_7, lf_7, f10_7, f11_7, f12_7, pa_7⟩ := u
    obtain ⟨hP, hK1, hD1⟩ := hB
    rw [ht] at hP
    have hD := hD1.weaken (fun _ _ _ h => hFc _ h)
    clear hFc hz1 hk1 hK1 hD1 ht hvm
    generalize H1 = H at hP hS ⊢
    have hP : va_P (dC, dI) vwCl (CWl a k LP N L f1 f2 f3 f4 f5 f6 f7 f8 rd_7 f10_7 f11_7 f12_7 n f14 lf_7 wd ho ro pa_7 rs E) H := hP
    have hD : va_D A (CWl a k LP N L f1 f2 f3 f4 f5 f6 f7 f8 rd_7 f10_7 f11_7 f12_7 n f14 lf_7 wd ho ro pa_7 rs E) := hD
    obtain ⟨hrd4_7, hpa_7⟩ := fol_ok hw_7 hL1 hL4 hho hro
    refine lv_pop hx hb dX4_isStale_64 rfl ?_
    refine lv_iload hx hb dX4_isStale_65 (lv_at hl 0 rfl) ?_
    refine lv_aload_n hx hb dX4_isStale_67 rfl (lv_at hl 2 rfl) ?_
    refine va_get (D := (dC, dI)) (ci := 4) (v := .ref (a 4)) (C := RX4) (T := TX4) (N := 12) hx hb hta inA_X4 hown hK hP 0 rfl rfl 2 (by decide) (hta _ aw_174) (fun _ h9 => h9) rfl dX4_isStale_68 ?_
    refine va_getN (D := (dC, dI)) (ci := 3) (v := .int f12_7) (C := RX3) (T := TX3) (N := 8) hx hb hta inA_X3 hown hK hP 4 rfl rfl 7 (by decide) (hN.nf 8 rfl) (fun _ h9 => h9) rfl dX4_isStale_71 ?_
    refine lv_icmp_eq (tgt := 81) hx hb dX4_isStale_74 (by decide) (fun c_74_7 => ?_) (fun c_74_7 => ?_)
    · refine lv_iconst (v := 0) hx hb dX4_isStale_81 (by decide) ?_
      exact W.zret (ty := .boolean) (v := (0 : Int32)) hx hb hr rfl (fun t ht hW => ⟨⟨(0 : Int32), (rd_7, lf_7, f10_7, f11_7, f12_7, pa_7), rfl, (by unfold mX4_isStale; rewrite [if_pos c_21_5]; rewrite [← hw_7]; (try dsimp only); rewrite [if_pos c_74_7]; (first | done | rfl)), by rw [ht]; exact hP, va_K.moved hW.alike hK, hD⟩, hS.F ht⟩) hS.2.2 dX4_isStale_82
    · refine lv_iconst (v := 1) hx hb dX4_isStale_77 (by decide) ?_
      refine lv_goto (tgt := 82) hx hb dX4_isStale_78 (by decide) ?_
      exact W.zret (ty := .boolean) (v := (1 : Int32)) hx hb hr rfl (fun t ht hW => ⟨⟨(1 : Int32), (rd_7, lf_7, f10_7, f11_7, f12_7, pa_7), rfl, (by unfold mX4_isStale; rewrite [if_pos c_21_5]; rewrite [← hw_7]; (try dsimp only); rewrite [if_neg c_74_7]; (first | done | rfl)), by rw [ht]; exact hP, va_K.moved hW.alike hK, hD⟩, hS.F ht⟩) hS.2.2 dX4_isStale_82
  · refine lv_aload_n hx hb dX4_isStale_24 rfl (lv_at hl 1 rfl) ?_
    refine va_get (D := (dC, dI)) (ci := 4) (v := .ref (a 1)) (C := RX4) (T := TX4) (N := 12) hx hb hta inA_X4 hown hK hP 0 rfl rfl 1 (by decide) (hta _ aw_173) (fun _ h9 => h9) rfl dX4_isStale_25 ?_
    refine lv_aload_n hx hb dX4_isStale_28 rfl (lv_at hl 2 rfl) ?_
    obtain ⟨k_9, hk_9⟩ := va_pl_get (X := (CWx a k N L f1 f2 f3 f4 f5 f6 f7 f8 rd f10 f11 f12 n f14 lf wd ho ro pa rs)) (f := (CEf E)) hy0
    refine va_getN (D := (dC, dI)) (ci := 1) (v := .int (E 3 y0)) (C := RX1) (T := TX1) (N := 6) hx hb hta inA_X1 hown hK hP k_9 hk_9 rfl 3 (by decide) (hN.nf 16 rfl) (fun _ h9 => h9) rfl dX4_isStale_29 ?_
    refine lv_aload_n hx hb dX4_isStale_32 rfl (lv_at hl 2 rfl) ?_
    obtain ⟨k_10, hk_10⟩ := va_pl_get (X := (CWx a k N L f1 f2 f3 f4 f5 f6 f7 f8 rd f10 f11 f12 n f14 lf wd ho ro pa rs)) (f := (CEf E)) hy0
    refine va_getN (D := (dC, dI)) (ci := 1) (v := .int (E 1 y0)) (C := RX1) (T := TX1) (N := 6) hx hb hta inA_X1 hown hK hP k_10 hk_10 rfl 1 (by decide) (hN.nf 12 rfl) (fun _ h9 => h9) rfl dX4_isStale_33 ?_
    refine lv_iload_n hx hb dX4_isStale_36 rfl (lv_at hl 0 rfl) ?_
    refine cx_callSi (va_runVN (As := [.int (E 3 y0), .int (E 1 y0), .int ((E 2 y0) <<< ((mX4_bitsBelow (E 1 y0)) &&& 31))]) (rest := []) ⟨hx, hb, hml, hown, hta⟩ (c_X2_reach l dC dI a k LP N L f1 f2 f3 f4 f5 f6 f7 f8 rd f10 f11 f12 n f14 lf wd ho ro pa rs E (E 3 y0) (E 1 y0) ((E 2 y0) <<< ((mX4_bitsBelow (E 1 y0)) &&& 31))) ⟨va_cnB 3 hta (gC aw_423) rfl rfl rfl (hN.nm 21 rfl) (hta _ aw_39) (by decide +kernel) ⟨Nat.le_of_ble_eq_true rfl, Nat.le_of_ble_eq_true rfl⟩, (hta _ aw_422), (hta _ aw_10)⟩ (cx_preVS hK hP hN (va_recv hK hP (ci := 2) (q0 := 1) rfl rfl)) rfl rfl hl.1 rfl (lv_room (Nat.le_of_ble_eq_true rfl)) dX4_isStale_37 ⟨Nat.le_of_ble_eq_true rfl, Nat.le_of_ble_eq_true rfl⟩) (fun r hw_11 => ?_)
    subst hw_11
    refine lv_goto (tgt := 44) hx hb dX4_isStale_40 (by decide) ?_
    refine lv_istore (lv' := [(4, .int (mX2_reach f8 ho (E 3 y0) (E 1 y0) ((E 2 y0) <<< ((mX4_bitsBelow (E 1 y0)) &&& 31)))), (3, .int ((E 2 y0) <<< ((mX4_bitsBelow (E 1 y0)) &&& 31))), (0, .ref (a 0)), (1, .ref y0), (2, .int p1)]) hx hb dX4_isStale_44 hl (by decide) rfl (fun ls hl => ?_)
    refine lv_aload_n hx hb dX4_isStale_46 rfl (lv_at hl 2 rfl) ?_
    refine va_get (D := (dC, dI)) (ci := 4) (v := .ref (a 4)) (C := RX4) (T := TX4) (N := 12) hx hb hta inA_X4 hown hK hP 0 rfl rfl 2 (by decide) (hta _ aw_174) (fun _ h9 => h9) rfl dX4_isStale_47 ?_
    refine lv_aload_n hx hb dX4_isStale_50 rfl (lv_at hl 2 rfl) ?_
    refine va_get (D := (dC, dI)) (ci := 4) (v := .ref (a 8)) (C := RX4) (T := TX4) (N := 12) hx hb hta inA_X4 hown hK hP 0 rfl rfl 4 (by decide) (hta _ aw_176) (fun _ h9 => h9) rfl dX4_isStale_51 ?_
    refine lv_aload_n hx hb dX4_isStale_54 rfl (lv_at hl 2 rfl) ?_
    refine va_get (D := (dC, dI)) (ci := 4) (v := .int f1) (C := RX4) (T := TX4) (N := 12) hx hb hta inA_X4 hown hK hP 0 rfl rfl 5 (by decide) (hta _ aw_177) (fun _ h9 => h9) rfl dX4_isStale_55 ?_
    refine va_iald hx hb hK hP 8 4 rfl rfl hf1 dX4_isStale_58 ?_
    refine lv_iload_n hx hb dX4_isStale_59 rfl (lv_at hl 1 rfl) ?_
    refine lv_iload_n hx hb dX4_isStale_60 rfl (lv_at hl 4 rfl) ?_
    have hFc : ∀ q, va_A (CWl a k LP N L f1 f2 f3 f4 f5 f6 f7 f8 rd f10 f11 f12 n f14 lf wd ho ro pa rs E) s.heap.size q → A q := cx_free hD hS hA
    refine va_calli (va_runVN (As := [.int (ro f1.toNatClampNeg), .int ((E 2 y0) <<< ((mX4_bitsBelow (E 1 y0)) &&& 31)), .int p1]) (rest := []) ⟨hx, hb, hml, hown, hta⟩ (c_X3_follow l dC dI a k LP N L f1 f2 f3 f4 f5 f6 f7 f8 rd f10 f11 f12 n f14 lf wd ho ro pa rs E s.heap.size (ro f1.toNatClampNeg) ((E 2 y0) <<< ((mX4_bitsBelow (E 1 y0)) &&& 31)) p1 hL1 hL4 hho hro) ⟨va_cnB 3 hta (gC aw_389) rfl rfl rfl (hN.nm 7 rfl) (hta _ aw_40) (by decide +kernel) ⟨Nat.le_of_ble_eq_true rfl, Nat.le_of_ble_eq_true rfl⟩, (hta _ aw_388), (hta _ aw_4)⟩ (cx_preVQ hK hP hN (va_recv hK hP (ci := 3) (q0 := 4) rfl rfl) hD) rfl rfl hl.1 rfl (lv_room (Nat.le_of_ble_eq_true rfl)) dX4_isStale_61 ⟨Nat.le_of_ble_eq_true rfl, Nat.le_of_ble_eq_true rfl⟩) hS (fun q _ h => hFc q h) hFc (fun r_12 u t9 H1 locs ht hvm hw_12 hB hz1 hk1 hS => ?_)
    obtain ⟨rd_12, lf_12, f10_12, f11_12, f12_12, pa_12⟩ := u
    obtain ⟨hP, hK1, hD1⟩ := hB
    rw [ht] at hP
    have hD := hD1.weaken (fun _ _ _ h => hFc _ h)
    clear hFc hz1 hk1 hK1 hD1 ht hvm
    generalize H1 = H at hP hS ⊢
    have hP : va_P (dC, dI) vwCl (CWl a k LP N L f1 f2 f3 f4 f5 f6 f7 f8 rd_12 f10_12 f11_12 f12_12 n f14 lf_12 wd ho ro pa_12 rs E) H := hP
    have hD : va_D A (CWl a k LP N L f1 f2 f3 f4 f5 f6 f7 f8 rd_12 f10_12 f11_12 f12_12 n f14 lf_12 wd ho ro pa_12 rs E) := hD
    obtain ⟨hrd4_12, hpa_12⟩ := fol_ok hw_12 hL1 hL4 hho hro
    refine lv_pop hx hb dX4_isStale_64 rfl ?_
    refine lv_iload hx hb dX4_isStale_65 (lv_at hl 0 rfl) ?_
    refine lv_aload_n hx hb dX4_isStale_67 rfl (lv_at hl 2 rfl) ?_
    refine va_get (D := (dC, dI)) (ci := 4) (v := .ref (a 4)) (C := RX4) (T := TX4) (N := 12) hx hb hta inA_X4 hown hK hP 0 rfl rfl 2 (by decide) (hta _ aw_174) (fun _ h9 => h9) rfl dX4_isStale_68 ?_
    refine va_getN (D := (dC, dI)) (ci := 3) (v := .int f12_12) (C := RX3) (T := TX3) (N := 8) hx hb hta inA_X3 hown hK hP 4 rfl rfl 7 (by decide) (hN.nf 8 rfl) (fun _ h9 => h9) rfl dX4_isStale_71 ?_
    refine lv_icmp_eq (tgt := 81) hx hb dX4_isStale_74 (by decide) (fun c_74_12 => ?_) (fun c_74_12 => ?_)
    · refine lv_iconst (v := 0) hx hb dX4_isStale_81 (by decide) ?_
      exact W.zret (ty := .boolean) (v := (0 : Int32)) hx hb hr rfl (fun t ht hW => ⟨⟨(0 : Int32), (rd_12, lf_12, f10_12, f11_12, f12_12, pa_12), rfl, (by unfold mX4_isStale; rewrite [if_neg c_21_5]; rewrite [← hw_12]; (try dsimp only); rewrite [if_pos c_74_12]; (first | done | rfl)), by rw [ht]; exact hP, va_K.moved hW.alike hK, hD⟩, hS.F ht⟩) hS.2.2 dX4_isStale_82
    · refine lv_iconst (v := 1) hx hb dX4_isStale_77 (by decide) ?_
      refine lv_goto (tgt := 82) hx hb dX4_isStale_78 (by decide) ?_
      exact W.zret (ty := .boolean) (v := (1 : Int32)) hx hb hr rfl (fun t ht hW => ⟨⟨(1 : Int32), (rd_12, lf_12, f10_12, f11_12, f12_12, pa_12), rfl, (by unfold mX4_isStale; rewrite [if_neg c_21_5]; rewrite [← hw_12]; (try dsimp only); rewrite [if_neg c_74_12]; (first | done | rfl)), by rw [ht]; exact hP, va_K.moved hW.alike hK, hD⟩, hS.F ht⟩) hS.2.2 dX4_isStale_82
/-- PageRows.translateByTables -/
def mX4_translateByTables (N : Nat) (L : Nat) (f1 : Int32) (f4 : Int32) (f6 : Int32) (f7 : Int32) (f8 : Int32) (f10 : Int32) (n : Nat) (f14 : Int32) (lf : Int64) (wd : Nat → Int64) (ho : Nat → Int32) (ro : Nat → Int32) (pa : Nat → Int32) (rs : Nat → Option Nat) (E : Nat → Nat → Int32) (p0 : Int32) (p1 : Int32) : Int32 × Int32 × Int32 × Int32 × Int32 × Int32 × Nat × Int32 × Int32 × Int32 × Nat × Int32 × Int64 × (Nat → Int64) × (Nat → Int32) × (Nat → Option Nat) × (Nat → Nat → Int32) :=
  match mFol L f8 wd ho f10 lf pa (ro f1.toNatClampNeg) p0 p1 with
  | (r_1, rd_1, lf_1, f10_1, f11_1, f12_1, pa_1) =>
    if r_1 = 0 then
      match mMark rd_1 lf_1 pa_1 (mX4_isWrite p1) (mMarkL pa_1 rd_1 0 wd) with
      | (wd_5, lf_5) =>
        match mX0_keep N f10_1 n f14 lf_5 rs E f1 p0 with
        | (n_6, f14_6, rs_6, E_6) =>
          match mX4_finish f7 r_1 f11_1 f12_1 with
          | (r_7, f2_7, f3_7, f7_7) =>
            (r_7, f2_7, f3_7, f4 + (nI rd_1), f6 + (1 : Int32), f7_7, rd_1, f10_1, f11_1, f12_1, n_6, f14_6, lf_5, wd_5, pa_1, rs_6, E_6)
    else
      match mX4_finish f7 r_1 f11_1 f12_1 with
      | (r_3, f2_3, f3_3, f7_3) =>
        (r_3, f2_3, f3_3, f4 + (nI rd_1), f6 + (1 : Int32), f7_3, rd_1, f10_1, f11_1, f12_1, n, f14, lf_1, wd, pa_1, rs, E)
set_option maxHeartbeats 4000000 in
set_option maxRecDepth 100000 in
theorem c_X4_translateByTables (l : Launch) (dC : Nat → ClassId) (dI : Nat → Nat → Nat) (a : Nat → Nat) (k : Nat → ClassId) (LP : List Nat) (N : Nat) (L : Nat) (f1 f2 f3 f4 f5 f6 f7 f8 : Int32) (rd : Nat) (f10 f11 f12 : Int32) (n : Nat) (f14 : Int32) (lf : Int64) (wd : Nat → Int64) (ho ro pa : Nat → Int32) (rs : Nat → Option Nat) (E : Nat → Nat → Int32)  (sz : Nat) (p0 : Int32) (p1 : Int32) (hL1 : 1 ≤ L) (hL4 : L ≤ 4) (hho : HOK ho) (hf1 : vp_in f1 4) (hro : ¬ ro f1.toNatClampNeg < 0) (hn : n ≤ N) (h0N : 0 < N) (hN32 : N ≤ 32) (hrow : ∀ i, i < N → rs i = some (rowA rs i) ∧ rowA rs i ∈ LP) : Met l yX4_translateByTables (wX4_translateByTables :: AW) ({ frames := 4, cells := 0, slots := 0, locals := 91 }) (va_Pc [.ref (a 0), .int p0, .int p1] (CPrQ dC dI (CWl a k LP N L f1 f2 f3 f4 f5 f6 f7 f8 rd f10 f11 f12 n f14 lf wd ho ro pa rs E) [(k 0, .long), (k 1, .int), (k 2, .int), (k 3, .object "PageRows$Entry"), (k 4, .int)] sz)) (va_Qi (fun (r : Int32) (u : Int32 × Int32 × Int32 × Int32 × Int32 × Nat × Int32 × Int32 × Int32 × Nat × Int32 × Int64 × (Nat → Int64) × (Nat → Int32) × (Nat → Option Nat) × (Nat → Nat → Int32)) => (r, u) = mX4_translateByTables N L f1 f4 f6 f7 f8 f10 n f14 lf wd ho ro pa rs E p0 p1) (fun (u : Int32 × Int32 × Int32 × Int32 × Int32 × Nat × Int32 × Int32 × Int32 × Nat × Int32 × Int64 × (Nat → Int64) × (Nat → Int32) × (Nat → Option Nat) × (Nat → Nat → Int32)) (t : State) => match u with | (f2', f3', f4', f6', f7', rd', f10', f11', f12', n', f14', lf', wd', pa', rs', E') => va_P (dC, dI) vwCl (CWl a k LP N L f1 f2' f3' f4' f5 f6' f7' f8 rd' f10' f11' f12' n' f14' lf' wd' ho ro pa' rs' E') t.heap ∧ va_K (dC, dI) vwCl [(k 0, .long), (k 1, .int), (k 2, .int), (k 3, .object "PageRows$Entry"), (k 4, .int)] t ∧ va_D (va_A (CWl a k LP N L f1 f2 f3 f4 f5 f6 f7 f8 rd f10 f11 f12 n f14 lf wd ho ro pa rs E) sz) (CWl a k LP N L f1 f2' f3' f4' f5 f6' f7' f8 rd' f10' f11' f12' n' f14' lf' wd' ho ro pa' rs' E')) (va_A (CWl a k LP N L f1 f2 f3 f4 f5 f6 f7 f8 rd f10 f11 f12 n f14 lf wd ho ro pa rs E) sz)) 0 0 (va_A (CWl a k LP N L f1 f2 f3 f4 f5 f6 f7 f8 rd f10 f11 f12 n f14 lf wd ho ro pa rs E) sz) := by
  refine cx_of (cc := cX4_translateByTables) (maxL := 4) (ret := some .int) (by decide) rfl (Nat.le_of_ble_eq_true rfl) ?_
  intro p e s m below meth c ls hx hb hr hts hown hlocks hml hnm hl hB
  have hta : ∀ w ∈ AW, w.before [.ref (a 0), .int p0, .int p1].toArray s = true := fun w h => hts w (List.mem_cons_of_mem _ h)
  have hl : lv_has ls 4 [(0, .ref (a 0)), (1, .int p0), (2, .int p1)] := hl
  have hown : s.vm.findClass RX4 = some m.cls := hown
  obtain ⟨rfl, ⟨hP, hK, hN⟩, hD0⟩ := hB
  have hD := hD0.self (sz := s.heap.size)
  generalize hAe : va_A (CWl a k LP N L f1 f2 f3 f4 f5 f6 f7 f8 rd f10 f11 f12 n f14 lf wd ho ro pa rs E) s.heap.size = A at hD ⊢
  have hA : ∀ q : Nat, s.heap.size ≤ q → A q := fun q h => by rw [← hAe]; exact Or.inr h
  have hS : va_S A s.heap s.heap [] := va_S.rf
  refine lv_aload_n hx hb dX4_translateByTables_0 rfl (lv_at hl 0 rfl) ?_
  refine lv_dup hx hb dX4_translateByTables_1 rfl ?_
  refine va_get (D := (dC, dI)) (ci := 4) (v := .int f6) (C := RX4) (T := TX4) (N := 12) hx hb hta inA_X4 hown hK hP 0 rfl rfl 10 (by decide) (hta _ aw_182) (fun _ h9 => h9) rfl dX4_translateByTables_2 ?_
  refine lv_iconst (v := 1) hx hb dX4_translateByTables_5 (by decide) ?_
  refine lv_iadd hx hb dX4_translateByTables_6 ?_
  refine va_put (D := (dC, dI)) (ci := 4) (v := .int (f6 + (1 : Int32))) (ty := .int) (C := RX4) (T := TX4) (N := 12) hx hb hta inA_X4 tyX4 tyX4_ok nmX4 hown hK hP hD hS 0 rfl rfl 10 (by decide) (hta _ aw_182) (fun _ h9 => h9) rfl (by decide +kernel) rfl rfl (Nat.le_of_ble_eq_true rfl) dX4_translateByTables_7 (fun H locs hP hD hS => ?_)
  have hP : va_P (dC, dI) vwCl (CWl a k LP N L f1 f2 f3 f4 f5 (f6 + (1 : Int32)) f7 f8 rd f10 f11 f12 n f14 lf wd ho ro pa rs E) H := hP
  have hD : va_D A (CWl a k LP N L f1 f2 f3 f4 f5 (f6 + (1 : Int32)) f7 f8 rd f10 f11 f12 n f14 lf wd ho ro pa rs E) := hD
  refine lv_aload_n hx hb dX4_translateByTables_10 rfl (lv_at hl 0 rfl) ?_
  refine va_get (D := (dC, dI)) (ci := 4) (v := .ref (a 4)) (C := RX4) (T := TX4) (N := 12) hx hb hta inA_X4 hown hK hP 0 rfl rfl 2 (by decide) (hta _ aw_174) (fun _ h9 => h9) rfl dX4_translateByTables_11 ?_
  refine lv_aload_n hx hb dX4_translateByTables_14 rfl (lv_at hl 0 rfl) ?_
  refine va_get (D := (dC, dI)) (ci := 4) (v := .ref (a 8)) (C := RX4) (T := TX4) (N := 12) hx hb hta inA_X4 hown hK hP 0 rfl rfl 4 (by decide) (hta _ aw_176) (fun _ h9 => h9) rfl dX4_translateByTables_15 ?_
  refine lv_aload_n hx hb dX4_translateByTables_18 rfl (lv_at hl 0 rfl) ?_
  refine va_get (D := (dC, dI)) (ci := 4) (v := .int f1) (C := RX4) (T := TX4) (N := 12) hx hb hta inA_X4 hown hK hP 0 rfl rfl 5 (by decide) (hta _ aw_177) (fun _ h9 => h9) rfl dX4_translateByTables_19 ?_
  refine va_iald hx hb hK hP 8 4 rfl rfl hf1 dX4_translateByTables_22 ?_
  refine lv_iload_n hx hb dX4_translateByTables_23 rfl (lv_at hl 1 rfl) ?_
  refine lv_iload_n hx hb dX4_translateByTables_24 rfl (lv_at hl 2 rfl) ?_
  have hFc : ∀ q, va_A (CWl a k LP N L f1 f2 f3 f4 f5 (f6 + (1 : Int32)) f7 f8 rd f10 f11 f12 n f14 lf wd ho ro pa rs E) H.size q → A q := cx_free hD hS hA
  refine va_calli (va_runVN (As := [.int (ro f1.toNatClampNeg), .int p0, .int p1]) (rest := []) ⟨hx, hb, hml, hown, hta⟩ (c_X3_follow l dC dI a k LP N L f1 f2 f3 f4 f5 (f6 + (1 : Int32)) f7 f8 rd f10 f11 f12 n f14 lf wd ho ro pa rs E H.size (ro f1.toNatClampNeg) p0 p1 hL1 hL4 hho hro) ⟨va_cnB 3 hta (gC aw_389) rfl rfl rfl (hN.nm 7 rfl) (hta _ aw_40) (by decide +kernel) ⟨Nat.le_of_ble_eq_true rfl, Nat.le_of_ble_eq_true rfl⟩, (hta _ aw_388), (hta _ aw_4)⟩ (cx_preVQ hK hP hN (va_recv hK hP (ci := 3) (q0 := 4) rfl rfl) hD) rfl rfl hl.1 rfl (lv_room (Nat.le_of_ble_eq_true rfl)) dX4_translateByTables_25 ⟨Nat.le_of_ble_eq_true rfl, Nat.le_of_ble_eq_true rfl⟩) hS (fun q _ h => hFc q h) hFc (fun r_1 u t9 H1 locs ht hvm hw_1 hB hz1 hk1 hS => ?_)
  obtain ⟨rd_1, lf_1, f10_1, f11_1, f12_1, pa_1⟩ := u
  obtain ⟨hP, hK1, hD1⟩ := hB
  rw [ht] at hP
  have hD := hD1.weaken (fun _ _ _ h => hFc _ h)
  clear hFc hz1 hk1 hK1 hD1 ht hvm
  generalize H1 = H at hP hS ⊢
  have hP : va_P (dC, dI) vwCl (CWl a k LP N L f1 f2 f3 f4 f5 (f6 + (1 : Int32)) f7 f8 rd_1 f10_1 f11_1 f12_1 n f14 lf_1 wd ho ro pa_1 rs E) H := hP
  have hD : va_D A (CWl a k LP N L f1 f2 f3 f4 f5 (f6 + (1 : Int32)) f7 f8 rd_1 f10_1 f11_1 f12_1 n f14 lf_1 wd ho ro pa_1 rs E) := hD
  obtain ⟨hrd4_1, hpa_1⟩ := fol_ok hw_1 hL1 hL4 hho hro
  refine lv_istore_n (lv' := [(3, .int r_1), (0, .ref (a 0)), (1, .int p0), (2, .int p1)]) hx hb dX4_translateByTables_28 rfl hl (by decide) rfl (fun ls hl => ?_)
  refine lv_aload_n hx hb dX4_translateByTables_29 rfl (lv_at hl 1 rfl) ?_
  refine lv_dup hx hb dX4_translateByTables_30 rfl ?_
  refine va_get (D := (dC, dI)) (ci := 4) (v := .int f4) (C := RX4) (T := TX4) (N := 12) hx hb hta inA_X4 hown hK hP 0 rfl rfl 8 (by decide) (hta _ aw_180) (fun _ h9 => h9) rfl dX4_translateByTables_31 ?_
  refine lv_aload_n hx hb dX4_translateByTables_34 rfl (lv_at hl 1 rfl) ?_
  refine va_get (D := (dC, dI)) (ci := 4) (v := .ref (a 4)) (C := RX4) (T := TX4) (N := 12) hx hb hta inA_X4 hown hK hP 0 rfl rfl 2 (by decide) (hta _ aw_174) (fun _ h9 => h9) rfl dX4_translateByTables_35 ?_
  refine va_getN (D := (dC, dI)) (ci := 3) (v := .int (nI rd_1)) (C := RX3) (T := TX3) (N := 8) hx hb hta inA_X3 hown hK hP 4 rfl rfl 3 (by decide) (hN.nf 4 rfl) (fun _ h9 => h9) rfl dX4_translateByTables_38 ?_
  refine lv_iadd hx hb dX4_translateByTables_41 ?_
  refine va_put (D := (dC, dI)) (ci := 4) (v := .int (f4 + (nI rd_1))) (ty := .int) (C := RX4) (T := TX4) (N := 12) hx hb hta inA_X4 tyX4 tyX4_ok nmX4 hown hK hP hD hS 0 rfl rfl 8 (by decide) (hta _ aw_180) (fun _ h9 => h9) rfl (by decide +kernel) rfl rfl (Nat.le_of_ble_eq_true rfl) dX4_translateByTables_42 (fun H locs hP hD hS => ?_)
  have hP : va_P (dC, dI) vwCl (CWl a k LP N L f1 f2 f3 (f4 + (nI rd_1)) f5 (f6 + (1 : Int32)) f7 f8 rd_1 f10_1 f11_1 f12_1 n f14 lf_1 wd ho ro pa_1 rs E) H := hP
  have hD : va_D A (CWl a k LP N L f1 f2 f3 (f4 + (nI rd_1)) f5 (f6 + (1 : Int32)) f7 f8 rd_1 f10_1 f11_1 f12_1 n f14 lf_1 wd ho ro pa_1 rs E) := hD
  refine lv_iload_n hx hb dX4_translateByTables_45 rfl (lv_at hl 0 rfl) ?_
  refine lv_if_ne (tgt := 76) hx hb dX4_translateByTables_46 (by decide) (fun c_46_1 => ?_) (fun c_46_1 => ?_)
  · refine lv_aload_n hx hb dX4_translateByTables_76 rfl (lv_at hl 1 rfl) ?_
    refine lv_iload_n hx hb dX4_translateByTables_77 rfl (lv_at hl 0 rfl) ?_
    refine lv_aload_n hx hb dX4_translateByTables_78 rfl (lv_at hl 1 rfl) ?_
    refine va_get (D := (dC, dI)) (ci := 4) (v := .ref (a 4)) (C := RX4) (T := TX4) (N := 12) hx hb hta inA_X4 hown hK hP 0 rfl rfl 2 (by decide) (hta _ aw_174) (fun _ h9 => h9) rfl dX4_translateByTables_79 ?_
    refine va_getN (D := (dC, dI)) (ci := 3) (v := .int f11_1) (C := RX3) (T := TX3) (N := 8) hx hb hta inA_X3 hown hK hP 4 rfl rfl 6 (by decide) (hN.nf 7 rfl) (fun _ h9 => h9) rfl dX4_translateByTables_82 ?_
    refine lv_aload_n hx hb dX4_translateByTables_85 rfl (lv_at hl 1 rfl) ?_
    refine va_get (D := (dC, dI)) (ci := 4) (v := .ref (a 4)) (C := RX4) (T := TX4) (N := 12) hx hb hta inA_X4 hown hK hP 0 rfl rfl 2 (by decide) (hta _ aw_174) (fun _ h9 => h9) rfl dX4_translateByTables_86 ?_
    refine va_getN (D := (dC, dI)) (ci := 3) (v := .int f12_1) (C := RX3) (T := TX3) (N := 8) hx hb hta inA_X3 hown hK hP 4 rfl rfl 7 (by decide) (hN.nf 8 rfl) (fun _ h9 => h9) rfl dX4_translateByTables_89 ?_
    have hFc : ∀ q, va_A (CWl a k LP N L f1 f2 f3 (f4 + (nI rd_1)) f5 (f6 + (1 : Int32)) f7 f8 rd_1 f10_1 f11_1 f12_1 n f14 lf_1 wd ho ro pa_1 rs E) H.size q → A q := cx_free hD hS hA
    refine va_calli (va_runV (As := [.int r_1, .int f11_1, .int f12_1]) (rest := []) ⟨hx, hb, hml, hown, hta⟩ (c_X4_finish l dC dI a k LP N L f1 f2 f3 (f4 + (nI rd_1)) f5 (f6 + (1 : Int32)) f7 f8 rd_1 f10_1 f11_1 f12_1 n f14 lf_1 wd ho ro pa_1 rs E H.size r_1 f11_1 f12_1) (cwV 3 hta (gV aw_448 aw_450 aw_15 aw_38 aw_451) rfl rfl rfl (by decide +kernel) ⟨Nat.le_of_ble_eq_true rfl, Nat.le_of_ble_eq_true rfl⟩) (cx_preVQ hK hP hN (va_recv hK hP (ci := 4) (q0 := 0) rfl rfl) hD) rfl rfl hl.1 rfl (lv_room (Nat.le_of_ble_eq_true rfl)) dX4_translateByTables_92 ⟨Nat.le_of_ble_eq_true rfl, Nat.le_of_ble_eq_true rfl⟩) hS (fun q _ h => hFc q h) hFc (fun r_3 u t9 H1 locs ht hvm hw_3 hB hz1 hk1 hS => ?_)
    obtain ⟨f2_3, f3_3, f7_3⟩ := u
    obtain ⟨hP, hK1, hD1⟩ := hB
    rw [ht] at hP
    have hD := hD1.weaken (fun _ _ _ h => hFc _ h)
    clear hFc hz1 hk1 hK1 hD1 ht hvm
    generalize H1 = H at hP hS ⊢
    have hP : va_P (dC, dI) vwCl (CWl a k LP N L f1 f2_3 f3_3 (f4 + (nI rd_1)) f5 (f6 + (1 : Int32)) f7_3 f8 rd_1 f10_1 f11_1 f12_1 n f14 lf_1 wd ho ro pa_1 rs E) H := hP
    have hD : va_D A (CWl a k LP N L f1 f2_3 f3_3 (f4 + (nI rd_1)) f5 (f6 + (1 : Int32)) f7_3 f8 rd_1 f10_1 f11_1 f12_1 n f14 lf_1 wd ho ro pa_1 rs E) := hD
    exact W.iret (v := r_3) hx hb hr (fun t ht hW => ⟨⟨r_3, (f2_3, f3_3, f4 + (nI rd_1), f6 + (1 : Int32), f7_3, rd_1, f10_1, f11_1, f12_1, n, f14, lf_1, wd, pa_1, rs, E), rfl, (by unfold mX4_translateByTables; rewrite [← hw_1]; (try dsimp only); rewrite [if_neg c_46_1]; rewrite [← hw_3]; (try dsimp only); (first | done | rfl)), by rw [ht]; exact hP, va_K.moved hW.alike hK, hD⟩, hS.F ht⟩) hS.2.2 dX4_translateByTables_95
  · refine lv_aload_n hx hb dX4_translateByTables_49 rfl (lv_at hl 1 rfl) ?_
    refine va_get (D := (dC, dI)) (ci := 4) (v := .ref (a 4)) (C := RX4) (T := TX4) (N := 12) hx hb hta inA_X4 hown hK hP 0 rfl rfl 2 (by decide) (hta _ aw_174) (fun _ h9 => h9) rfl dX4_translateByTables_50 ?_
    refine lv_iload_n hx hb dX4_translateByTables_53 rfl (lv_at hl 3 rfl) ?_
    refine cx_callSi (va_runS (As := [.int p1]) (rest := [.ref (a 4)]) ⟨hx, hb, hml, hown, hta⟩ (c_X4_isWrite l p1) (va_cwS 1 hta (gS aw_376 aw_377 aw_38 aw_378) rfl rfl rfl (by decide +kernel) ⟨Nat.le_of_ble_eq_true rfl, Nat.le_of_ble_eq_true rfl⟩) cx_pre0 rfl rfl hl.1 rfl (lv_room (Nat.le_of_ble_eq_true rfl)) dX4_translateByTables_54 ⟨Nat.le_of_ble_eq_true rfl, Nat.le_of_ble_eq_true rfl⟩) (fun r hw_4 => ?_)
    subst hw_4
    have hFc : ∀ q, va_A (CWl a k LP N L f1 f2 f3 (f4 + (nI rd_1)) f5 (f6 + (1 : Int32)) f7 f8 rd_1 f10_1 f11_1 f12_1 n f14 lf_1 wd ho ro pa_1 rs E) H.size q → A q := cx_free hD hS hA
    refine va_callv (va_runVN (As := [.int (mX4_isWrite p1)]) (rest := []) ⟨hx, hb, hml, hown, hta⟩ (c_X3_mark l dC dI a k LP N L f1 f2 f3 (f4 + (nI rd_1)) f5 (f6 + (1 : Int32)) f7 f8 rd_1 f10_1 f11_1 f12_1 n f14 lf_1 wd ho ro pa_1 rs E H.size (mX4_isWrite p1) hrd4_1 hpa_1) ⟨va_cnB 1 hta (gC aw_429) rfl rfl rfl (hN.nm 15 rfl) (hta _ aw_40) (by decide +kernel) ⟨Nat.le_of_ble_eq_true rfl, Nat.le_of_ble_eq_true rfl⟩, (hta _ aw_428), (hta _ aw_11)⟩ (cx_preVQ hK hP hN (va_recv hK hP (ci := 3) (q0 := 4) rfl rfl) hD) rfl rfl hl.1 rfl (lv_room (Nat.le_of_ble_eq_true rfl)) dX4_translateByTables_57 ⟨Nat.le_of_ble_eq_true rfl, Nat.le_of_ble_eq_true rfl⟩) hS (fun q _ h => hFc q h) hFc (fun u t9 H1 locs ht hvm hw_5 hB hz1 hk1 hS => ?_)
    obtain ⟨wd_5, lf_5⟩ := u
    obtain ⟨hP, hK1, hD1⟩ := hB
    rw [ht] at hP
    have hD := hD1.weaken (fun _ _ _ h => hFc _ h)
    clear hFc hz1 hk1 hK1 hD1 ht hvm
    generalize H1 = H at hP hS ⊢
    have hP : va_P (dC, dI) vwCl (CWl a k LP N L f1 f2 f3 (f4 + (nI rd_1)) f5 (f6 + (1 : Int32)) f7 f8 rd_1 f10_1 f11_1 f12_1 n f14 lf_5 wd_5 ho ro pa_1 rs E) H := hP
    have hD : va_D A (CWl a k LP N L f1 f2 f3 (f4 + (nI rd_1)) f5 (f6 + (1 : Int32)) f7 f8 rd_1 f10_1 f11_1 f12_1 n f14 lf_5 wd_5 ho ro pa_1 rs E) := hD
    refine lv_aload_n hx hb dX4_translateByTables_60 rfl (lv_at hl 1 rfl) ?_
    refine va_get (D := (dC, dI)) (ci := 4) (v := .ref (a 6)) (C := RX4) (T := TX4) (N := 12) hx hb hta inA_X4 hown hK hP 0 rfl rfl 3 (by decide) (hta _ aw_175) (fun _ h9 => h9) rfl dX4_translateByTables_61 ?_
    refine lv_aload_n hx hb dX4_translateByTables_64 rfl (lv_at hl 1 rfl) ?_
    refine va_get (D := (dC, dI)) (ci := 4) (v := .int f1) (C := RX4) (T := TX4) (N := 12) hx hb hta inA_X4 hown hK hP 0 rfl rfl 5 (by decide) (hta _ aw_177) (fun _ h9 => h9) rfl dX4_translateByTables_65 ?_
    refine lv_iload_n hx hb dX4_translateByTables_68 rfl (lv_at hl 2 rfl) ?_
    refine lv_aload_n hx hb dX4_translateByTables_69 rfl (lv_at hl 1 rfl) ?_
    refine va_get (D := (dC, dI)) (ci := 4) (v := .ref (a 4)) (C := RX4) (T := TX4) (N := 12) hx hb hta inA_X4 hown hK hP 0 rfl rfl 2 (by decide) (hta _ aw_174) (fun _ h9 => h9) rfl dX4_translateByTables_70 ?_
    have hFc : ∀ q, va_A (CWl a k LP N L f1 f2 f3 (f4 + (nI rd_1)) f5 (f6 + (1 : Int32)) f7 f8 rd_1 f10_1 f11_1 f12_1 n f14 lf_5 wd_5 ho ro pa_1 rs E) H.size q → A q := cx_free hD hS hA
    refine va_callv (va_runVN (As := [.int f1, .int p0, .ref (a 4)]) (rest := []) ⟨hx, hb, hml, hown, hta⟩ (c_X0_keep l dC dI a k LP N L f1 f2 f3 (f4 + (nI rd_1)) f5 (f6 + (1 : Int32)) f7 f8 rd_1 f10_1 f11_1 f12_1 n f14 lf_5 wd_5 ho ro pa_1 rs E H.size f1 p0 hn h0N hN32 hrow) ⟨va_cnB 3 hta (gC aw_435) rfl rfl rfl (hN.nm 16 rfl) (hta _ aw_41) (by decide +kernel) ⟨Nat.le_of_ble_eq_true rfl, Nat.le_of_ble_eq_true rfl⟩, (hta _ aw_434), (hta _ aw_12)⟩ (cx_preVQ hK hP hN (va_recv hK hP (ci := 0) (q0 := 6) rfl rfl) hD) rfl rfl hl.1 rfl (lv_room (Nat.le_of_ble_eq_true rfl)) dX4_translateByTables_73 ⟨Nat.le_of_ble_eq_true rfl, Nat.le_of_ble_eq_true rfl⟩) hS (fun q _ h => hFc q h) hFc (fun u t9 H1 locs ht hvm hw_6 hB hz1 hk1 hS => ?_)
    obtain ⟨n_6, f14_6, rs_6, E_6⟩ := u
    obtain ⟨hP, hK1, hD1⟩ := hB
    rw [ht] at hP
    have hD := hD1.weaken (fun _ _ _ h => hFc _ h)
    clear hFc hz1 hk1 hK1 hD1 ht hvm
    generalize H1 = H at hP hS ⊢
    have hP : va_P (dC, dI) vwCl (CWl a k LP N L f1 f2 f3 (f4 + (nI rd_1)) f5 (f6 + (1 : Int32)) f7 f8 rd_1 f10_1 f11_1 f12_1 n_6 f14_6 lf_5 wd_5 ho ro pa_1 rs_6 E_6) H := hP
    have hD : va_D A (CWl a k LP N L f1 f2 f3 (f4 + (nI rd_1)) f5 (f6 + (1 : Int32)) f7 f8 rd_1 f10_1 f11_1 f12_1 n_6 f14_6 lf_5 wd_5 ho ro pa_1 rs_6 E_6) := hD
    refine lv_aload_n hx hb dX4_translateByTables_76 rfl (lv_at hl 1 rfl) ?_
    refine lv_iload_n hx hb dX4_translateByTables_77 rfl (lv_at hl 0 rfl) ?_
    refine lv_aload_n hx hb dX4_translateByTables_78 rfl (lv_at hl 1 rfl) ?_
    refine va_get (D := (dC, dI)) (ci := 4) (v := .ref (a 4)) (C := RX4) (T := TX4) (N := 12) hx hb hta inA_X4 hown hK hP 0 rfl rfl 2 (by decide) (hta _ aw_174) (fun _ h9 => h9) rfl dX4_translateByTables_79 ?_
    refine va_getN (D := (dC, dI)) (ci := 3) (v := .int f11_1) (C := RX3) (T := TX3) (N := 8) hx hb hta inA_X3 hown hK hP 4 rfl rfl 6 (by decide) (hN.nf 7 rfl) (fun _ h9 => h9) rfl dX4_translateByTables_82 ?_
    refine lv_aload_n hx hb dX4_translateByTables_85 rfl (lv_at hl 1 rfl) ?_
    refine va_get (D := (dC, dI)) (ci := 4) (v := .ref (a 4)) (C := RX4) (T := TX4) (N := 12) hx hb hta inA_X4 hown hK hP 0 rfl rfl 2 (by decide) (hta _ aw_174) (fun _ h9 => h9) rfl dX4_translateByTables_86 ?_
    refine va_getN (D := (dC, dI)) (ci := 3) (v := .int f12_1) (C := RX3) (T := TX3) (N := 8) hx hb hta inA_X3 hown hK hP 4 rfl rfl 7 (by decide) (hN.nf 8 rfl) (fun _ h9 => h9) rfl dX4_translateByTables_89 ?_
    have hFc : ∀ q, va_A (CWl a k LP N L f1 f2 f3 (f4 + (nI rd_1)) f5 (f6 + (1 : Int32)) f7 f8 rd_1 f10_1 f11_1 f12_1 n_6 f14_6 lf_5 wd_5 ho ro pa_1 rs_6 E_6) H.size q → A q := cx_free hD hS hA
    refine va_calli (va_runV (As := [.int r_1, .int f11_1, .int f12_1]) (rest := []) ⟨hx, hb, hml, hown, hta⟩ (c_X4_finish l dC dI a k LP N L f1 f2 f3 (f4 + (nI rd_1)) f5 (f6 + (1 : Int32)) f7 f8 rd_1 f10_1 f11_1 f12_1 n_6 f14_6 lf_5 wd_5 ho ro pa_1 rs_6 E_6 H.size r_1 f11_1 f12_1) (cwV 3 hta (gV aw_448 aw_450 aw_15 aw_38 aw_451) rfl rfl rfl (by decide +kernel) ⟨Nat.le_of_ble_eq_true rfl, Nat.le_of_ble_eq_true rfl⟩) (cx_preVQ hK hP hN (va_recv hK hP (ci := 4) (q0 := 0) rfl rfl) hD) rfl rfl hl.1 rfl (lv_room (Nat.le_of_ble_eq_true rfl)) dX4_translateByTables_92 ⟨Nat.le_of_ble_eq_true rfl, Nat.le_of_ble_eq_true rfl⟩) hS (fun q _ h => hFc q h) hFc (fun r_7 u t9 H1 locs ht hvm hw_7 hB hz1 hk1 hS => ?_)
    obtain ⟨f2_7, f3_7, f7_7⟩ := u
    obtain ⟨hP, hK1, hD1⟩ := hB
    rw [ht] at hP
    have hD := hD1.weaken (fun _ _ _ h => hFc _ h)
    clear hFc hz1 hk1 hK1 hD1 ht hvm
    generalize H1 = H at hP hS ⊢
    have hP : va_P (dC, dI) vwCl (CWl a k LP N L f1 f2_7 f3_7 (f4 + (nI rd_1)) f5 (f6 + (1 : Int32)) f7_7 f8 rd_1 f10_1 f11_1 f12_1 n_6 f14_6 lf_5 wd_5 ho ro pa_1 rs_6 E_6) H := hP
    have hD : va_D A (CWl a k LP N L f1 f2_7 f3_7 (f4 + (nI rd_1)) f5 (f6 + (1 : Int32)) f7_7 f8 rd_1 f10_1 f11_1 f12_1 n_6 f14_6 lf_5 wd_5 ho ro pa_1 rs_6 E_6) := hD
    exact W.iret (v := r_7) hx hb hr (fun t ht hW => ⟨⟨r_7, (f2_7, f3_7, f4 + (nI rd_1), f6 + (1 : Int32), f7_7, rd_1, f10_1, f11_1, f12_1, n_6, f14_6, lf_5, wd_5, pa_1, rs_6, E_6), rfl, (by unfold mX4_translateByTables; rewrite [← hw_1]; (try dsimp only); rewrite [if_pos c_46_1]; rewrite [← hw_5]; (try dsimp only); rewrite [← hw_6]; (try dsimp only); rewrite [← hw_7]; (try dsimp only); (first | done | rfl)), by rw [ht]; exact hP, va_K.moved hW.alike hK, hD⟩, hS.F ht⟩) hS.2.2 dX4_translateByTables_95
/-- PageRows.translateByEntry -/
def mX4_translateByEntry (L : Nat) (f5 : Int32) (f7 : Int32) (f8 : Int32) (ho : Nat → Int32) (rs : Nat → Option Nat) (E : Nat → Nat → Int32) (p0 : Nat) (p1 : Int32) (p2 : Int32) : Int32 × Int32 × Int32 × Int32 × Int32 × (Nat → Option Nat) :=
  match useRs rs p0 with
  | rs_1 =>
    if (mX4_allows (E 4 (rowA rs p0)) p2) = 0 then
      match mX4_finish f7 (3 : Int32) (nI L) (-1 : Int32) with
      | (r_11, f2_11, f3_11, f7_11) =>
        (r_11, f2_11, f3_11, f5 + (1 : Int32), f7_11, rs_1)
    else
      if (mX2_reach f8 ho (E 3 (rowA rs p0)) (E 1 (rowA rs p0)) p1) = (-1 : Int32) then
        match mX4_finish f7 (6 : Int32) (nI L) (mX2_reach f8 ho (E 3 (rowA rs p0)) (E 1 (rowA rs p0)) p1) with
        | (r_10, f2_10, f3_10, f7_10) =>
          (r_10, f2_10, f3_10, f5 + (1 : Int32), f7_10, rs_1)
      else
        match mX4_finish f7 (0 : Int32) (nI L) (mX2_reach f8 ho (E 3 (rowA rs p0)) (E 1 (rowA rs p0)) p1) with
        | (r_9, f2_9, f3_9, f7_9) =>
          (r_9, f2_9, f3_9, f5 + (1 : Int32), f7_9, rs_1)
set_option maxHeartbeats 4000000 in
set_option maxRecDepth 100000 in
theorem c_X4_translateByEntry (l : Launch) (dC : Nat → ClassId) (dI : Nat → Nat → Nat) (a : Nat → Nat) (k : Nat → ClassId) (LP : List Nat) (N : Nat) (L : Nat) (f1 f2 f3 f4 f5 f6 f7 f8 : Int32) (rd : Nat) (f10 f11 f12 : Int32) (n : Nat) (f14 : Int32) (lf : Int64) (wd : Nat → Int64) (ho ro pa : Nat → Int32) (rs : Nat → Option Nat) (E : Nat → Nat → Int32)  (sz : Nat) (p0 : Nat) (p1 : Int32) (p2 : Int32) (hk : p0 < N) (hn : n ≤ N) (hN32 : N ≤ 32) (hrow : ∀ i, i < N → rs i = some (rowA rs i) ∧ rowA rs i ∈ LP) : Met l yX4_translateByEntry (wX4_translateByEntry :: AW) ({ frames := 2, cells := 0, slots := 0, locals := 46 }) (va_Pc [.ref (a 0), .int (nI p0), .int p1, .int p2] (CPrQ dC dI (CWl a k LP N L f1 f2 f3 f4 f5 f6 f7 f8 rd f10 f11 f12 n f14 lf wd ho ro pa rs E) [(k 0, .long), (k 1, .int), (k 2, .int), (k 3, .object "PageRows$Entry"), (k 4, .int)] sz)) (va_Qi (fun (r : Int32) (u : Int32 × Int32 × Int32 × Int32 × (Nat → Option Nat)) => (r, u) = mX4_translateByEntry L f5 f7 f8 ho rs E p0 p1 p2) (fun (u : Int32 × Int32 × Int32 × Int32 × (Nat → Option Nat)) (t : State) => match u with | (f2', f3', f5', f7', rs') => va_P (dC, dI) vwCl (CWl a k LP N L f1 f2' f3' f4 f5' f6 f7' f8 rd f10 f11 f12 n f14 lf wd ho ro pa rs' E) t.heap ∧ va_K (dC, dI) vwCl [(k 0, .long), (k 1, .int), (k 2, .int), (k 3, .object "PageRows$Entry"), (k 4, .int)] t ∧ va_D (va_A (CWl a k LP N L f1 f2 f3 f4 f5 f6 f7 f8 rd f10 f11 f12 n f14 lf wd ho ro pa rs E) sz) (CWl a k LP N L f1 f2' f3' f4 f5' f6 f7' f8 rd f10 f11 f12 n f14 lf wd ho ro pa rs' E)) (va_A (CWl a k LP N L f1 f2 f3 f4 f5 f6 f7 f8 rd f10 f11 f12 n f14 lf wd ho ro pa rs E) sz)) 0 0 (va_A (CWl a k LP N L f1 f2 f3 f4 f5 f6 f7 f8 rd f10 f11 f12 n f14 lf wd ho ro pa rs E) sz) := by
  refine cx_of (cc := cX4_translateByEntry) (maxL := 6) (ret := some .int) (by decide) rfl (Nat.le_of_ble_eq_true rfl) ?_
  intro p e s m below meth c ls hx hb hr hts hown hlocks hml hnm hl hB
  have hta : ∀ w ∈ AW, w.before [.ref (a 0), .int (nI p0), .int p1, .int p2].toArray s = true := fun w h => hts w (List.mem_cons_of_mem _ h)
  have hl : lv_has ls 6 [(0, .ref (a 0)), (1, .int (nI p0)), (2, .int p1), (3, .int p2)] := hl
  have hown : s.vm.findClass RX4 = some m.cls := hown
  obtain ⟨rfl, ⟨hP, hK, hN⟩, hD0⟩ := hB
  have hD := hD0.self (sz := s.heap.size)
  generalize hAe : va_A (CWl a k LP N L f1 f2 f3 f4 f5 f6 f7 f8 rd f10 f11 f12 n f14 lf wd ho ro pa rs E) s.heap.size = A at hD ⊢
  have hA : ∀ q : Nat, s.heap.size ≤ q → A q := fun q h => by rw [← hAe]; exact Or.inr h
  have hS : va_S A s.heap s.heap [] := va_S.rf
  refine lv_aload_n hx hb dX4_translateByEntry_0 rfl (lv_at hl 0 rfl) ?_
  refine lv_dup hx hb dX4_translateByEntry_1 rfl ?_
  refine va_get (D := (dC, dI)) (ci := 4) (v := .int f5) (C := RX4) (T := TX4) (N := 12) hx hb hta inA_X4 hown hK hP 0 rfl rfl 9 (by decide) (hta _ aw_181) (fun _ h9 => h9) rfl dX4_translateByEntry_2 ?_
  refine lv_iconst (v := 1) hx hb dX4_translateByEntry_5 (by decide) ?_
  refine lv_iadd hx hb dX4_translateByEntry_6 ?_
  refine va_put (D := (dC, dI)) (ci := 4) (v := .int (f5 + (1 : Int32))) (ty := .int) (C := RX4) (T := TX4) (N := 12) hx hb hta inA_X4 tyX4 tyX4_ok nmX4 hown hK hP hD hS 0 rfl rfl 9 (by decide) (hta _ aw_181) (fun _ h9 => h9) rfl (by decide +kernel) rfl rfl (Nat.le_of_ble_eq_true rfl) dX4_translateByEntry_7 (fun H locs hP hD hS => ?_)
  have hP : va_P (dC, dI) vwCl (CWl a k LP N L f1 f2 f3 f4 (f5 + (1 : Int32)) f6 f7 f8 rd f10 f11 f12 n f14 lf wd ho ro pa rs E) H := hP
  have hD : va_D A (CWl a k LP N L f1 f2 f3 f4 (f5 + (1 : Int32)) f6 f7 f8 rd f10 f11 f12 n f14 lf wd ho ro pa rs E) := hD
  refine lv_aload_n hx hb dX4_translateByEntry_10 rfl (lv_at hl 0 rfl) ?_
  refine va_get (D := (dC, dI)) (ci := 4) (v := .ref (a 6)) (C := RX4) (T := TX4) (N := 12) hx hb hta inA_X4 hown hK hP 0 rfl rfl 3 (by decide) (hta _ aw_175) (fun _ h9 => h9) rfl dX4_translateByEntry_11 ?_
  refine va_getN (D := (dC, dI)) (ci := 0) (v := .ref (a 7)) (C := RX0) (T := TX0) (N := 3) hx hb hta inA_X0 hown hK hP 6 rfl rfl 0 (by decide) (hN.nf 21 rfl) (fun _ h9 => h9) rfl dX4_translateByEntry_14 ?_
  refine lv_iload_n hx hb dX4_translateByEntry_17 rfl (lv_at hl 1 rfl) ?_
  refine cx_aald hx hb hK hP 7 3 rfl rfl (vp_in_nI (by omega) (by omega)) (by rw [nI_clamp (by omega)]; exact (hrow p0 (by omega)).1) dX4_translateByEntry_18 ?_
  refine lv_astore (lv' := [(4, .ref (rowA rs p0)), (0, .ref (a 0)), (1, .int (nI p0)), (2, .int p1), (3, .int p2)]) hx hb dX4_translateByEntry_19 hl (by decide) rfl (fun ls hl => ?_)
  refine lv_aload_n hx hb dX4_translateByEntry_21 rfl (lv_at hl 1 rfl) ?_
  refine va_get (D := (dC, dI)) (ci := 4) (v := .ref (a 6)) (C := RX4) (T := TX4) (N := 12) hx hb hta inA_X4 hown hK hP 0 rfl rfl 3 (by decide) (hta _ aw_175) (fun _ h9 => h9) rfl dX4_translateByEntry_22 ?_
  refine lv_iload_n hx hb dX4_translateByEntry_25 rfl (lv_at hl 2 rfl) ?_
  have hFc : ∀ q, va_A (CWl a k LP N L f1 f2 f3 f4 (f5 + (1 : Int32)) f6 f7 f8 rd f10 f11 f12 n f14 lf wd ho ro pa rs E) H.size q → A q := cx_free hD hS hA
  refine va_callv (va_runVN (As := [.int (nI p0)]) (rest := []) ⟨hx, hb, hml, hown, hta⟩ (c_X0_use l dC dI a k LP N L f1 f2 f3 f4 (f5 + (1 : Int32)) f6 f7 f8 rd f10 f11 f12 n f14 lf wd ho ro pa rs E H.size p0 (by omega) hN32 hrow) ⟨va_cnB 1 hta (gC aw_447) rfl rfl rfl (hN.nm 20 rfl) (hta _ aw_41) (by decide +kernel) ⟨Nat.le_of_ble_eq_true rfl, Nat.le_of_ble_eq_true rfl⟩, (hta _ aw_446), (hta _ aw_14)⟩ (cx_preVQ hK hP hN (va_recv hK hP (ci := 0) (q0 := 6) rfl rfl) hD) rfl rfl hl.1 rfl (lv_room (Nat.le_of_ble_eq_true rfl)) dX4_translateByEntry_26 ⟨Nat.le_of_ble_eq_true rfl, Nat.le_of_ble_eq_true rfl⟩) hS (fun q _ h => hFc q h) hFc (fun u t9 H1 locs ht hvm hw_1 hB hz1 hk1 hS => ?_)
  obtain ⟨rs_1, rfl⟩ : ∃ z, z = u := ⟨_, rfl⟩
  obtain ⟨hP, hK1, hD1⟩ := hB
  rw [ht] at hP
  have hD := hD1.weaken (fun _ _ _ h => hFc _ h)
  clear hFc hz1 hk1 hK1 hD1 ht hvm
  generalize H1 = H at hP hS ⊢
  have hP : va_P (dC, dI) vwCl (CWl a k LP N L f1 f2 f3 f4 (f5 + (1 : Int32)) f6 f7 f8 rd f10 f11 f12 n f14 lf wd ho ro pa rs_1 E) H := hP
  have hD : va_D A (CWl a k LP N L f1 f2 f3 f4 (f5 + (1 : Int32)) f6 f7 f8 rd f10 f11 f12 n f14 lf wd ho ro pa rs_1 E) := hD
  refine lv_aload hx hb dX4_translateByEntry_29 (lv_at hl 0 rfl) ?_
  obtain ⟨k_2, hk_2⟩ := va_pl_get (X := (CWx a k N L f1 f2 f3 f4 (f5 + (1 : Int32)) f6 f7 f8 rd f10 f11 f12 n f14 lf wd ho ro pa rs_1)) (f := (CEf E)) (hrow p0 (by omega)).2
  refine va_getN (D := (dC, dI)) (ci := 1) (v := .int (E 4 (rowA rs p0))) (C := RX1) (T := TX1) (N := 6) hx hb hta inA_X1 hown hK hP k_2 hk_2 rfl 4 (by decide) (hN.nf 18 rfl) (fun _ h9 => h9) rfl dX4_translateByEntry_31 ?_
  refine lv_iload_n hx hb dX4_translateByEntry_34 rfl (lv_at hl 4 rfl) ?_
  refine cx_callSi (va_runS (As := [.int (E 4 (rowA rs p0)), .int p2]) (rest := []) ⟨hx, hb, hml, hown, hta⟩ (c_X4_allows l (E 4 (rowA rs p0)) p2) (va_cwS 2 hta (gS aw_379 aw_380 aw_38 aw_381) rfl rfl rfl (by decide +kernel) ⟨Nat.le_of_ble_eq_true rfl, Nat.le_of_ble_eq_true rfl⟩) cx_pre0 rfl rfl hl.1 rfl (lv_room (Nat.le_of_ble_eq_true rfl)) dX4_translateByEntry_35 ⟨Nat.le_of_ble_eq_true rfl, Nat.le_of_ble_eq_true rfl⟩) (fun r hw_3 => ?_)
  subst hw_3
  refine lv_if_ne (tgt := 52) hx hb dX4_translateByEntry_38 (by decide) (fun c_38_3 => ?_) (fun c_38_3 => ?_)
  · refine lv_aload_n hx hb dX4_translateByEntry_52 rfl (lv_at hl 1 rfl) ?_
    refine va_get (D := (dC, dI)) (ci := 4) (v := .ref (a 1)) (C := RX4) (T := TX4) (N := 12) hx hb hta inA_X4 hown hK hP 0 rfl rfl 1 (by decide) (hta _ aw_173) (fun _ h9 => h9) rfl dX4_translateByEntry_53 ?_
    refine lv_aload hx hb dX4_translateByEntry_56 (lv_at hl 0 rfl) ?_
    obtain ⟨k_5, hk_5⟩ := va_pl_get (X := (CWx a k N L f1 f2 f3 f4 (f5 + (1 : Int32)) f6 f7 f8 rd f10 f11 f12 n f14 lf wd ho ro pa rs_1)) (f := (CEf E)) (hrow p0 (by omega)).2
    refine va_getN (D := (dC, dI)) (ci := 1) (v := .int (E 3 (rowA rs p0))) (C := RX1) (T := TX1) (N := 6) hx hb hta inA_X1 hown hK hP k_5 hk_5 rfl 3 (by decide) (hN.nf 16 rfl) (fun _ h9 => h9) rfl dX4_translateByEntry_58 ?_
    refine lv_aload hx hb dX4_translateByEntry_61 (lv_at hl 0 rfl) ?_
    obtain ⟨k_6, hk_6⟩ := va_pl_get (X := (CWx a k N L f1 f2 f3 f4 (f5 + (1 : Int32)) f6 f7 f8 rd f10 f11 f12 n f14 lf wd ho ro pa rs_1)) (f := (CEf E)) (hrow p0 (by omega)).2
    refine va_getN (D := (dC, dI)) (ci := 1) (v := .int (E 1 (rowA rs p0))) (C := RX1) (T := TX1) (N := 6) hx hb hta inA_X1 hown hK hP k_6 hk_6 rfl 1 (by decide) (hN.nf 12 rfl) (fun _ h9 => h9) rfl dX4_translateByEntry_63 ?_
    refine lv_iload_n hx hb dX4_translateByEntry_66 rfl (lv_at hl 3 rfl) ?_
    refine cx_callSi (va_runVN (As := [.int (E 3 (rowA rs p0)), .int (E 1 (rowA rs p0)), .int p1]) (rest := []) ⟨hx, hb, hml, hown, hta⟩ (c_X2_reach l dC dI a k LP N L f1 f2 f3 f4 (f5 + (1 : Int32)) f6 f7 f8 rd f10 f11 f12 n f14 lf wd ho ro pa rs_1 E (E 3 (rowA rs p0)) (E 1 (rowA rs p0)) p1) ⟨va_cnB 3 hta (gC aw_423) rfl rfl rfl (hN.nm 21 rfl) (hta _ aw_39) (by decide +kernel) ⟨Nat.le_of_ble_eq_true rfl, Nat.le_of_ble_eq_true rfl⟩, (hta _ aw_422), (hta _ aw_10)⟩ (cx_preVS hK hP hN (va_recv hK hP (ci := 2) (q0 := 1) rfl rfl)) rfl rfl hl.1 rfl (lv_room (Nat.le_of_ble_eq_true rfl)) dX4_translateByEntry_67 ⟨Nat.le_of_ble_eq_true rfl, Nat.le_of_ble_eq_true rfl⟩) (fun r hw_7 => ?_)
    subst hw_7
    refine lv_istore (lv' := [(5, .int (mX2_reach f8 ho (E 3 (rowA rs p0)) (E 1 (rowA rs p0)) p1)), (4, .ref (rowA rs p0)), (0, .ref (a 0)), (1, .int (nI p0)), (2, .int p1), (3, .int p2)]) hx hb dX4_translateByEntry_70 hl (by decide) rfl (fun ls hl => ?_)
    refine lv_aload_n hx hb dX4_translateByEntry_72 rfl (lv_at hl 2 rfl) ?_
    refine lv_iload hx hb dX4_translateByEntry_73 (lv_at hl 0 rfl) ?_
    refine lv_iconst (v := (-1)) hx hb dX4_translateByEntry_75 (by decide) ?_
    refine lv_icmp_ne (tgt := 84) hx hb dX4_translateByEntry_76 (by decide) (fun c_76_7 => ?_) (fun c_76_7 => ?_)
    · refine lv_iconst (v := 0) hx hb dX4_translateByEntry_84 (by decide) ?_
      refine lv_aload_n hx hb dX4_translateByEntry_85 rfl (lv_at hl 2 rfl) ?_
      refine va_get (D := (dC, dI)) (ci := 4) (v := .int (nI L)) (C := RX4) (T := TX4) (N := 12) hx hb hta inA_X4 hown hK hP 0 rfl rfl 0 (by decide) (hta _ aw_172) (fun _ h9 => h9) rfl dX4_translateByEntry_86 ?_
      refine lv_iload hx hb dX4_translateByEntry_89 (lv_at hl 0 rfl) ?_
      have hFc : ∀ q, va_A (CWl a k LP N L f1 f2 f3 f4 (f5 + (1 : Int32)) f6 f7 f8 rd f10 f11 f12 n f14 lf wd ho ro pa rs_1 E) H.size q → A q := cx_free hD hS hA
      refine va_calli (va_runV (As := [.int (0 : Int32), .int (nI L), .int (mX2_reach f8 ho (E 3 (rowA rs p0)) (E 1 (rowA rs p0)) p1)]) (rest := []) ⟨hx, hb, hml, hown, hta⟩ (c_X4_finish l dC dI a k LP N L f1 f2 f3 f4 (f5 + (1 : Int32)) f6 f7 f8 rd f10 f11 f12 n f14 lf wd ho ro pa rs_1 E H.size (0 : Int32) (nI L) (mX2_reach f8 ho (E 3 (rowA rs p0)) (E 1 (rowA rs p0)) p1)) (cwV 3 hta (gV aw_448 aw_450 aw_15 aw_38 aw_451) rfl rfl rfl (by decide +kernel) ⟨Nat.le_of_ble_eq_true rfl, Nat.le_of_ble_eq_true rfl⟩) (cx_preVQ hK hP hN (va_recv hK hP (ci := 4) (q0 := 0) rfl rfl) hD) rfl rfl hl.1 rfl (lv_room (Nat.le_of_ble_eq_true rfl)) dX4_translateByEntry_91 ⟨Nat.le_of_ble_eq_true rfl, Nat.le_of_ble_eq_true rfl⟩) hS (fun q _ h => hFc q h) hFc (fun r_9 u t9 H1 locs ht hvm hw_9 hB hz1 hk1 hS => ?_)
      obtain ⟨f2_9, f3_9, f7_9⟩ := u
      obtain ⟨hP, hK1, hD1⟩ := hB
      rw [ht] at hP
      have hD := hD1.weaken (fun _ _ _ h => hFc _ h)
      clear hFc hz1 hk1 hK1 hD1 ht hvm
      generalize H1 = H at hP hS ⊢
      have hP : va_P (dC, dI) vwCl (CWl a k LP N L f1 f2_9 f3_9 f4 (f5 + (1 : Int32)) f6 f7_9 f8 rd f10 f11 f12 n f14 lf wd ho ro pa rs_1 E) H := hP
      have hD : va_D A (CWl a k LP N L f1 f2_9 f3_9 f4 (f5 + (1 : Int32)) f6 f7_9 f8 rd f10 f11 f12 n f14 lf wd ho ro pa rs_1 E) := hD
      exact W.iret (v := r_9) hx hb hr (fun t ht hW => ⟨⟨r_9, (f2_9, f3_9, f5 + (1 : Int32), f7_9, rs_1), rfl, (by unfold mX4_translateByEntry; rewrite [← hw_1]; (try dsimp only); rewrite [if_neg c_38_3]; rewrite [if_neg c_76_7]; rewrite [← hw_9]; (try dsimp only); (first | done | rfl)), by rw [ht]; exact hP, va_K.moved hW.alike hK, hD⟩, hS.F ht⟩) hS.2.2 dX4_translateByEntry_94
    · refine lv_bipush (v := 6) hx hb dX4_translateByEntry_79 (by decide) ?_
      refine lv_goto (tgt := 85) hx hb dX4_translateByEntry_81 (by decide) ?_
      refine lv_aload_n hx hb dX4_translateByEntry_85 rfl (lv_at hl 2 rfl) ?_
      refine va_get (D := (dC, dI)) (ci := 4) (v := .int (nI L)) (C := RX4) (T := TX4) (N := 12) hx hb hta inA_X4 hown hK hP 0 rfl rfl 0 (by decide) (hta _ aw_172) (fun _ h9 => h9) rfl dX4_translateByEntry_86 ?_
      refine lv_iload hx hb dX4_translateByEntry_89 (lv_at hl 0 rfl) ?_
      have hFc : ∀ q, va_A (CWl a k LP N L f1 f2 f3 f4 (f5 + (1 : Int32)) f6 f7 f8 rd f10 f11 f12 n f14 lf wd ho ro pa rs_1 E) H.size q → A q := cx_free hD hS hA
      refine va_calli (va_runV (As := [.int (6 : Int32), .int (nI L), .int (mX2_reach f8 ho (E 3 (rowA rs p0)) (E 1 (rowA rs p0)) p1)]) (rest := []) ⟨hx, hb, hml, hown, hta⟩ (c_X4_finish l dC dI a k LP N L f1 f2 f3 f4 (f5 + (1 : Int32)) f6 f7 f8 rd f10 f11 f12 n f14 lf wd ho ro pa rs_1 E H.size (6 : Int32) (nI L) (mX2_reach f8 ho (E 3 (rowA rs p0)) (E 1 (rowA rs p0)) p1)) (cwV 3 hta (gV aw_448 aw_450 aw_15 aw_38 aw_451) rfl rfl rfl (by decide +kernel) ⟨Nat.le_of_ble_eq_true rfl, Nat.le_of_ble_eq_true rfl⟩) (cx_preVQ hK hP hN (va_recv hK hP (ci := 4) (q0 := 0) rfl rfl) hD) rfl rfl hl.1 rfl (lv_room (Nat.le_of_ble_eq_true rfl)) dX4_translateByEntry_91 ⟨Nat.le_of_ble_eq_true rfl, Nat.le_of_ble_eq_true rfl⟩) hS (fun q _ h => hFc q h) hFc (fun r_10 u t9 H1 locs ht hvm hw_10 hB hz1 hk1 hS => ?_)
      obtain ⟨f2_10, f3_10, f7_10⟩ := u
      obtain ⟨hP, hK1, hD1⟩ := hB
      rw [ht] at hP
      have hD := hD1.weaken (fun _ _ _ h => hFc _ h)
      clear hFc hz1 hk1 hK1 hD1 ht hvm
      generalize H1 = H at hP hS ⊢
      have hP : va_P (dC, dI) vwCl (CWl a k LP N L f1 f2_10 f3_10 f4 (f5 + (1 : Int32)) f6 f7_10 f8 rd f10 f11 f12 n f14 lf wd ho ro pa rs_1 E) H := hP
      have hD : va_D A (CWl a k LP N L f1 f2_10 f3_10 f4 (f5 + (1 : Int32)) f6 f7_10 f8 rd f10 f11 f12 n f14 lf wd ho ro pa rs_1 E) := hD
      exact W.iret (v := r_10) hx hb hr (fun t ht hW => ⟨⟨r_10, (f2_10, f3_10, f5 + (1 : Int32), f7_10, rs_1), rfl, (by unfold mX4_translateByEntry; rewrite [← hw_1]; (try dsimp only); rewrite [if_neg c_38_3]; rewrite [if_pos c_76_7]; rewrite [← hw_10]; (try dsimp only); (first | done | rfl)), by rw [ht]; exact hP, va_K.moved hW.alike hK, hD⟩, hS.F ht⟩) hS.2.2 dX4_translateByEntry_94
  · refine lv_aload_n hx hb dX4_translateByEntry_41 rfl (lv_at hl 1 rfl) ?_
    refine lv_iconst (v := 3) hx hb dX4_translateByEntry_42 (by decide) ?_
    refine lv_aload_n hx hb dX4_translateByEntry_43 rfl (lv_at hl 1 rfl) ?_
    refine va_get (D := (dC, dI)) (ci := 4) (v := .int (nI L)) (C := RX4) (T := TX4) (N := 12) hx hb hta inA_X4 hown hK hP 0 rfl rfl 0 (by decide) (hta _ aw_172) (fun _ h9 => h9) rfl dX4_translateByEntry_44 ?_
    refine lv_iconst (v := (-1)) hx hb dX4_translateByEntry_47 (by decide) ?_
    have hFc : ∀ q, va_A (CWl a k LP N L f1 f2 f3 f4 (f5 + (1 : Int32)) f6 f7 f8 rd f10 f11 f12 n f14 lf wd ho ro pa rs_1 E) H.size q → A q := cx_free hD hS hA
    refine va_calli (va_runV (As := [.int (3 : Int32), .int (nI L), .int (-1 : Int32)]) (rest := []) ⟨hx, hb, hml, hown, hta⟩ (c_X4_finish l dC dI a k LP N L f1 f2 f3 f4 (f5 + (1 : Int32)) f6 f7 f8 rd f10 f11 f12 n f14 lf wd ho ro pa rs_1 E H.size (3 : Int32) (nI L) (-1 : Int32)) (cwV 3 hta (gV aw_448 aw_450 aw_15 aw_38 aw_451) rfl rfl rfl (by decide +kernel) ⟨Nat.le_of_ble_eq_true rfl, Nat.le_of_ble_eq_true rfl⟩) (cx_preVQ hK hP hN (va_recv hK hP (ci := 4) (q0 := 0) rfl rfl) hD) rfl rfl hl.1 rfl (lv_room (Nat.le_of_ble_eq_true rfl)) dX4_translateByEntry_48 ⟨Nat.le_of_ble_eq_true rfl, Nat.le_of_ble_eq_true rfl⟩) hS (fun q _ h => hFc q h) hFc (fun r_11 u t9 H1 locs ht hvm hw_11 hB hz1 hk1 hS => ?_)
    obtain ⟨f2_11, f3_11, f7_11⟩ := u
    obtain ⟨hP, hK1, hD1⟩ := hB
    rw [ht] at hP
    have hD := hD1.weaken (fun _ _ _ h => hFc _ h)
    clear hFc hz1 hk1 hK1 hD1 ht hvm
    generalize H1 = H at hP hS ⊢
    have hP : va_P (dC, dI) vwCl (CWl a k LP N L f1 f2_11 f3_11 f4 (f5 + (1 : Int32)) f6 f7_11 f8 rd f10 f11 f12 n f14 lf wd ho ro pa rs_1 E) H := hP
    have hD : va_D A (CWl a k LP N L f1 f2_11 f3_11 f4 (f5 + (1 : Int32)) f6 f7_11 f8 rd f10 f11 f12 n f14 lf wd ho ro pa rs_1 E) := hD
    exact W.iret (v := r_11) hx hb hr (fun t ht hW => ⟨⟨r_11, (f2_11, f3_11, f5 + (1 : Int32), f7_11, rs_1), rfl, (by unfold mX4_translateByEntry; rewrite [← hw_1]; (try dsimp only); rewrite [if_pos c_38_3]; rewrite [← hw_11]; (try dsimp only); (first | done | rfl)), by rw [ht]; exact hP, va_K.moved hW.alike hK, hD⟩, hS.F ht⟩) hS.2.2 dX4_translateByEntry_51
end
section
/-- PageRows.table -/
def mX4_table (wd : Nat → Int64) (p0 : Int32) (p1 : Int64) : Nat ⊕ (Int64 × (Nat → Int64)) :=
  if p0 < 0 then
    .inl 0
  else
    if p0 < (4096 : Int32) then
      .inr (wd p0.toNatClampNeg, vp_updL wd p0.toNatClampNeg p1)
    else
      .inl 0
set_option maxHeartbeats 4000000 in
set_option maxRecDepth 100000 in
theorem c_X4_table (l : Launch) (hl9 : l.stackTraces = false) (dC : Nat → ClassId) (dI : Nat → Nat → Nat) (a : Nat → Nat) (k : Nat → ClassId) (LP : List Nat) (N : Nat) (L : Nat) (f1 f2 f3 f4 f5 f6 f7 f8 : Int32) (rd : Nat) (f10 f11 f12 : Int32) (n : Nat) (f14 : Int32) (lf : Int64) (wd : Nat → Int64) (ho ro pa : Nat → Int32) (rs : Nat → Option Nat) (E : Nat → Nat → Int32)  (sz : Nat) (p0 : Int32) (p1 : Int64)  : vx_Met l yX4_table (wX4_table :: AW) ({ frames := 6, cells := 1, slots := 6, locals := 91 }) (va_Pc [.ref (a 0), .int p0, .long p1] (CPrX dC dI (CWl a k LP N L f1 f2 f3 f4 f5 f6 f7 f8 rd f10 f11 f12 n f14 lf wd ho ro pa rs E) [(k 0, .long), (k 1, .int), (k 2, .int), (k 3, .object "PageRows$Entry"), (k 4, .int)] sz)) (va_Ql (fun (r : Int64) (u : (Nat → Int64)) => .inr (r, u) = mX4_table wd p0 p1) (fun (u : (Nat → Int64)) (t : State) => match u with | wd' => va_P (dC, dI) vwCl (CWl a k LP N L f1 f2 f3 f4 f5 f6 f7 f8 rd f10 f11 f12 n f14 lf wd' ho ro pa rs E) t.heap ∧ va_K (dC, dI) vwCl [(k 0, .long), (k 1, .int), (k 2, .int), (k 3, .object "PageRows$Entry"), (k 4, .int)] t ∧ va_D (va_A (CWl a k LP N L f1 f2 f3 f4 f5 f6 f7 f8 rd f10 f11 f12 n f14 lf wd ho ro pa rs E) sz) (CWl a k LP N L f1 f2 f3 f4 f5 f6 f7 f8 rd f10 f11 f12 n f14 lf wd' ho ro pa rs E)) (va_A (CWl a k LP N L f1 f2 f3 f4 f5 f6 f7 f8 rd f10 f11 f12 n f14 lf wd ho ro pa rs E) sz)) (vx_X (fun u : Nat => .inl u = mX4_table wd p0 p1) (fun (E9 : String) (u : Nat) (t : State) => E9 = excN u ∧ va_P (dC, dI) vwCl (CWl a k LP N L f1 f2 f3 f4 f5 f6 f7 f8 rd f10 f11 f12 n f14 lf wd ho ro pa rs E) t.heap ∧ va_K (dC, dI) vwCl [(k 0, .long), (k 1, .int), (k 2, .int), (k 3, .object "PageRows$Entry"), (k 4, .int)] t ∧ va_D (va_A (CWl a k LP N L f1 f2 f3 f4 f5 f6 f7 f8 rd f10 f11 f12 n f14 lf wd ho ro pa rs E) sz) (CWl a k LP N L f1 f2 f3 f4 f5 f6 f7 f8 rd f10 f11 f12 n f14 lf wd ho ro pa rs E)) (va_A (CWl a k LP N L f1 f2 f3 f4 f5 f6 f7 f8 rd f10 f11 f12 n f14 lf wd ho ro pa rs E) sz)) 1 6 (va_A (CWl a k LP N L f1 f2 f3 f4 f5 f6 f7 f8 rd f10 f11 f12 n f14 lf wd ho ro pa rs E) sz) := by
  refine cx_ofX (cc := cX4_table) (maxL := 6) (ret := some .long) (by decide) rfl (Nat.le_of_ble_eq_true rfl) ?_
  intro p e s m below meth c ls hx hb hr hts hown hlocks hml hEx hl hB
  have hta : ∀ w ∈ AW, w.before [.ref (a 0), .int p0, .long p1].toArray s = true := fun w h => hts w (List.mem_cons_of_mem _ h)
  have hl : lv_has ls 6 [(0, .ref (a 0)), (1, .int p0), (2, .long p1)] := hl
  have hown : s.vm.findClass RX4 = some m.cls := hown
  obtain ⟨⟨rfl, ⟨hP, hK, hN⟩, hD0⟩, hXW, hXZ⟩ := hB
  have hD := hD0.self (sz := s.heap.size)
  generalize hAe : va_A (CWl a k LP N L f1 f2 f3 f4 f5 f6 f7 f8 rd f10 f11 f12 n f14 lf wd ho ro pa rs E) s.heap.size = A at hD hXZ ⊢
  have hA : ∀ q : Nat, s.heap.size ≤ q → A q := fun q h => by rw [← hAe]; exact Or.inr h
  have hS : va_S A s.heap s.heap [] := va_S.rf
  refine lv_iload_n hx hb dX4_table_0 rfl (lv_at hl 1 rfl) ?_
  refine lv_if_lt (tgt := 11) hx hb dX4_table_1 (by decide) (fun c_1_0 => ?_) (fun c_1_0 => ?_)
  · exact cx_throwI hx hb hl9 hown hta aw_236 aw_47 (List.mem_of_getElem? (i := 0) rfl) hXW hXZ hS hl hml dX4_table_11 dX4_table_14 dX4_table_15 dX4_table_17 dX4_table_20 hEx (Nat.le_of_ble_eq_true rfl) (Nat.le_of_ble_eq_true rfl) (Nat.le_of_ble_eq_true rfl) (Nat.le_of_ble_eq_true rfl) hlocks hS.2.2 (Nat.le_of_ble_eq_true rfl) (Nat.le_of_ble_eq_true rfl) (fun t ha hsz hk => ⟨0, (by unfold mX4_table; rewrite [if_pos c_1_0]; (first | done | rfl)), ⟨rfl, hP.kept (fun k q hq => hk q.1 (hP k q hq).lt), va_K.moved ha hK, hD⟩, Nat.le_trans hS.1 hsz, fun q h1 h2 => (hk q (Nat.lt_of_lt_of_le h1 hS.1)).trans (hS.2.1 q h1 h2)⟩)
  · refine lv_iload_n hx hb dX4_table_4 rfl (lv_at hl 1 rfl) ?_
    refine lv_sipush (v := 4096) hx hb dX4_table_5 (by decide) ?_
    refine lv_icmp_lt (tgt := 21) hx hb dX4_table_8 (by decide) (fun c_8_1 => ?_) (fun c_8_1 => ?_)
    · refine lv_aload_n hx hb dX4_table_21 rfl (lv_at hl 0 rfl) ?_
      refine va_get (D := (dC, dI)) (ci := 4) (v := .ref (a 1)) (C := RX4) (T := TX4) (N := 12) hx hb hta inA_X4 hown hK hP 0 rfl rfl 1 (by decide) (hta _ aw_173) (fun _ h9 => h9) rfl dX4_table_22 ?_
      refine va_getN (D := (dC, dI)) (ci := 2) (v := .ref (a 2)) (C := RX2) (T := TX2) (N := 3) hx hb hta inA_X2 hown hK hP 1 rfl rfl 0 (by decide) (hN.nf 0 rfl) (fun _ h9 => h9) rfl dX4_table_25 ?_
      refine lv_iload_n hx hb dX4_table_28 rfl (lv_at hl 1 rfl) ?_
      refine va_lald hx hb hK hP 2 0 rfl rfl (cx_inl c_1_0 c_8_1 rfl) dX4_table_29 ?_
      refine lv_lstore (lv' := [(4, .long (wd p0.toNatClampNeg)), (0, .ref (a 0)), (1, .int p0), (2, .long p1)]) hx hb dX4_table_30 hl (by decide) rfl (fun ls hl => ?_)
      refine lv_aload_n hx hb dX4_table_32 rfl (lv_at hl 1 rfl) ?_
      refine va_get (D := (dC, dI)) (ci := 4) (v := .ref (a 1)) (C := RX4) (T := TX4) (N := 12) hx hb hta inA_X4 hown hK hP 0 rfl rfl 1 (by decide) (hta _ aw_173) (fun _ h9 => h9) rfl dX4_table_33 ?_
      refine va_getN (D := (dC, dI)) (ci := 2) (v := .ref (a 2)) (C := RX2) (T := TX2) (N := 3) hx hb hta inA_X2 hown hK hP 1 rfl rfl 0 (by decide) (hN.nf 0 rfl) (fun _ h9 => h9) rfl dX4_table_36 ?_
      refine lv_iload_n hx hb dX4_table_39 rfl (lv_at hl 2 rfl) ?_
      refine lv_lload_n hx hb dX4_table_40 rfl (lv_at hl 3 rfl) ?_
      refine va_last hx hb hK hP hD hS 2 0 rfl rfl (cx_inl c_1_0 c_8_1 rfl) dX4_table_41 (fun H locs hP hD hS => ?_)
      have hP : va_P (dC, dI) vwCl (CWl a k LP N L f1 f2 f3 f4 f5 f6 f7 f8 rd f10 f11 f12 n f14 lf (vp_updL wd p0.toNatClampNeg p1) ho ro pa rs E) H := hP
      have hD : va_D A (CWl a k LP N L f1 f2 f3 f4 f5 f6 f7 f8 rd f10 f11 f12 n f14 lf (vp_updL wd p0.toNatClampNeg p1) ho ro pa rs E) := hD
      refine lv_lload hx hb dX4_table_42 (lv_at hl 0 rfl) ?_
      refine vx_ret ?_
      refine W.widen (k := 1) (n := 6) (Nat.le_of_ble_eq_true rfl) (Nat.le_of_ble_eq_true rfl) ?_
      exact W.lret (v := wd p0.toNatClampNeg) hx hb hr (fun t ht hW => ⟨⟨wd p0.toNatClampNeg, vp_updL wd p0.toNatClampNeg p1, rfl, (by unfold mX4_table; rewrite [if_neg c_1_0]; rewrite [if_pos c_8_1]; (first | done | rfl)), by rw [ht]; exact hP, va_K.moved hW.alike hK, hD⟩, hS.F ht⟩) hS.2.2 dX4_table_44
    · exact cx_throwI hx hb hl9 hown hta aw_236 aw_47 (List.mem_of_getElem? (i := 0) rfl) hXW hXZ hS hl hml dX4_table_11 dX4_table_14 dX4_table_15 dX4_table_17 dX4_table_20 hEx (Nat.le_of_ble_eq_true rfl) (Nat.le_of_ble_eq_true rfl) (Nat.le_of_ble_eq_true rfl) (Nat.le_of_ble_eq_true rfl) hlocks hS.2.2 (Nat.le_of_ble_eq_true rfl) (Nat.le_of_ble_eq_true rfl) (fun t ha hsz hk => ⟨0, (by unfold mX4_table; rewrite [if_neg c_1_0]; rewrite [if_neg c_8_1]; (first | done | rfl)), ⟨rfl, hP.kept (fun k q hq => hk q.1 (hP k q hq).lt), va_K.moved ha hK, hD⟩, Nat.le_trans hS.1 hsz, fun q h1 h2 => (hk q (Nat.lt_of_lt_of_le h1 hS.1)).trans (hS.2.1 q h1 h2)⟩)
/-- PageRows.word -/
def mX4_word (wd : Nat → Int64) (p0 : Int32) : Nat ⊕ Int64 :=
  if p0 < 0 then
    .inl 0
  else
    if p0 < (4096 : Int32) then
      .inr (wd p0.toNatClampNeg)
    else
      .inl 0
set_option maxHeartbeats 4000000 in
set_option maxRecDepth 100000 in
theorem c_X4_word (l : Launch) (hl9 : l.stackTraces = false) (dC : Nat → ClassId) (dI : Nat → Nat → Nat) (a : Nat → Nat) (k : Nat → ClassId) (LP : List Nat) (N : Nat) (L : Nat) (f1 f2 f3 f4 f5 f6 f7 f8 : Int32) (rd : Nat) (f10 f11 f12 : Int32) (n : Nat) (f14 : Int32) (lf : Int64) (wd : Nat → Int64) (ho ro pa : Nat → Int32) (rs : Nat → Option Nat) (E : Nat → Nat → Int32)  (sz : Nat) (p0 : Int32)  : vx_Met l yX4_word (wX4_word :: AW) ({ frames := 6, cells := 1, slots := 6, locals := 91 }) (va_Pc [.ref (a 0), .int p0] (CPrX dC dI (CWl a k LP N L f1 f2 f3 f4 f5 f6 f7 f8 rd f10 f11 f12 n f14 lf wd ho ro pa rs E) [(k 0, .long), (k 1, .int), (k 2, .int), (k 3, .object "PageRows$Entry"), (k 4, .int)] sz)) (va_Ql (fun (r : Int64) (u : Unit) => .inr r = mX4_word wd p0) (fun (u : Unit) (t : State) => match u with | _ => va_P (dC, dI) vwCl (CWl a k LP N L f1 f2 f3 f4 f5 f6 f7 f8 rd f10 f11 f12 n f14 lf wd ho ro pa rs E) t.heap ∧ va_K (dC, dI) vwCl [(k 0, .long), (k 1, .int), (k 2, .int), (k 3, .object "PageRows$Entry"), (k 4, .int)] t ∧ va_D (va_A (CWl a k LP N L f1 f2 f3 f4 f5 f6 f7 f8 rd f10 f11 f12 n f14 lf wd ho ro pa rs E) sz) (CWl a k LP N L f1 f2 f3 f4 f5 f6 f7 f8 rd f10 f11 f12 n f14 lf wd ho ro pa rs E)) (va_A (CWl a k LP N L f1 f2 f3 f4 f5 f6 f7 f8 rd f10 f11 f12 n f14 lf wd ho ro pa rs E) sz)) (vx_X (fun u : Nat => .inl u = mX4_word wd p0) (fun (E9 : String) (u : Nat) (t : State) => E9 = excN u ∧ va_P (dC, dI) vwCl (CWl a k LP N L f1 f2 f3 f4 f5 f6 f7 f8 rd f10 f11 f12 n f14 lf wd ho ro pa rs E) t.heap ∧ va_K (dC, dI) vwCl [(k 0, .long), (k 1, .int), (k 2, .int), (k 3, .object "PageRows$Entry"), (k 4, .int)] t ∧ va_D (va_A (CWl a k LP N L f1 f2 f3 f4 f5 f6 f7 f8 rd f10 f11 f12 n f14 lf wd ho ro pa rs E) sz) (CWl a k LP N L f1 f2 f3 f4 f5 f6 f7 f8 rd f10 f11 f12 n f14 lf wd ho ro pa rs E)) (va_A (CWl a k LP N L f1 f2 f3 f4 f5 f6 f7 f8 rd f10 f11 f12 n f14 lf wd ho ro pa rs E) sz)) 1 6 (va_A (CWl a k LP N L f1 f2 f3 f4 f5 f6 f7 f8 rd f10 f11 f12 n f14 lf wd ho ro pa rs E) sz) := by
  refine cx_ofX (cc := cX4_word) (maxL := 2) (ret := some .long) (by decide) rfl (Nat.le_of_ble_eq_true rfl) ?_
  intro p e s m below meth c ls hx hb hr hts hown hlocks hml hEx hl hB
  have hta : ∀ w ∈ AW, w.before [.ref (a 0), .int p0].toArray s = true := fun w h => hts w (List.mem_cons_of_mem _ h)
  have hl : lv_has ls 2 [(0, .ref (a 0)), (1, .int p0)] := hl
  have hown : s.vm.findClass RX4 = some m.cls := hown
  obtain ⟨⟨rfl, ⟨hP, hK, hN⟩, hD0⟩, hXW, hXZ⟩ := hB
  have hD := hD0.self (sz := s.heap.size)
  generalize hAe : va_A (CWl a k LP N L f1 f2 f3 f4 f5 f6 f7 f8 rd f10 f11 f12 n f14 lf wd ho ro pa rs E) s.heap.size = A at hD hXZ ⊢
  have hA : ∀ q : Nat, s.heap.size ≤ q → A q := fun q h => by rw [← hAe]; exact Or.inr h
  have hS : va_S A s.heap s.heap [] := va_S.rf
  refine lv_iload_n hx hb dX4_word_0 rfl (lv_at hl 1 rfl) ?_
  refine lv_if_lt (tgt := 11) hx hb dX4_word_1 (by decide) (fun c_1_0 => ?_) (fun c_1_0 => ?_)
  · exact cx_throwI hx hb hl9 hown hta aw_236 aw_47 (List.mem_of_getElem? (i := 0) rfl) hXW hXZ hS hl hml dX4_word_11 dX4_word_14 dX4_word_15 dX4_word_17 dX4_word_20 hEx (Nat.le_of_ble_eq_true rfl) (Nat.le_of_ble_eq_true rfl) (Nat.le_of_ble_eq_true rfl) (Nat.le_of_ble_eq_true rfl) hlocks hS.2.2 (Nat.le_of_ble_eq_true rfl) (Nat.le_of_ble_eq_true rfl) (fun t ha hsz hk => ⟨0, (by unfold mX4_word; rewrite [if_pos c_1_0]; (first | done | rfl)), ⟨rfl, hP.kept (fun k q hq => hk q.1 (hP k q hq).lt), va_K.moved ha hK, hD⟩, Nat.le_trans hS.1 hsz, fun q h1 h2 => (hk q (Nat.lt_of_lt_of_le h1 hS.1)).trans (hS.2.1 q h1 h2)⟩)
  · refine lv_iload_n hx hb dX4_word_4 rfl (lv_at hl 1 rfl) ?_
    refine lv_sipush (v := 4096) hx hb dX4_word_5 (by decide) ?_
    refine lv_icmp_lt (tgt := 21) hx hb dX4_word_8 (by decide) (fun c_8_1 => ?_) (fun c_8_1 => ?_)
    · refine lv_aload_n hx hb dX4_word_21 rfl (lv_at hl 0 rfl) ?_
      refine va_get (D := (dC, dI)) (ci := 4) (v := .ref (a 1)) (C := RX4) (T := TX4) (N := 12) hx hb hta inA_X4 hown hK hP 0 rfl rfl 1 (by decide) (hta _ aw_173) (fun _ h9 => h9) rfl dX4_word_22 ?_
      refine va_getN (D := (dC, dI)) (ci := 2) (v := .ref (a 2)) (C := RX2) (T := TX2) (N := 3) hx hb hta inA_X2 hown hK hP 1 rfl rfl 0 (by decide) (hN.nf 0 rfl) (fun _ h9 => h9) rfl dX4_word_25 ?_
      refine lv_iload_n hx hb dX4_word_28 rfl (lv_at hl 1 rfl) ?_
      refine va_lald hx hb hK hP 2 0 rfl rfl (cx_inl c_1_0 c_8_1 rfl) dX4_word_29 ?_
      refine vx_ret ?_
      refine W.widen (k := 1) (n := 6) (Nat.le_of_ble_eq_true rfl) (Nat.le_of_ble_eq_true rfl) ?_
      exact W.lret (v := wd p0.toNatClampNeg) hx hb hr (fun t ht hW => ⟨⟨wd p0.toNatClampNeg, (), rfl, (by unfold mX4_word; rewrite [if_neg c_1_0]; rewrite [if_pos c_8_1]; (first | done | rfl)), by rw [ht]; exact hP, va_K.moved hW.alike hK, hD⟩, hS.F ht⟩) hS.2.2 dX4_word_30
    · exact cx_throwI hx hb hl9 hown hta aw_236 aw_47 (List.mem_of_getElem? (i := 0) rfl) hXW hXZ hS hl hml dX4_word_11 dX4_word_14 dX4_word_15 dX4_word_17 dX4_word_20 hEx (Nat.le_of_ble_eq_true rfl) (Nat.le_of_ble_eq_true rfl) (Nat.le_of_ble_eq_true rfl) (Nat.le_of_ble_eq_true rfl) hlocks hS.2.2 (Nat.le_of_ble_eq_true rfl) (Nat.le_of_ble_eq_true rfl) (fun t ha hsz hk => ⟨0, (by unfold mX4_word; rewrite [if_neg c_1_0]; rewrite [if_neg c_8_1]; (first | done | rfl)), ⟨rfl, hP.kept (fun k q hq => hk q.1 (hP k q hq).lt), va_K.moved ha hK, hD⟩, Nat.le_trans hS.1 hsz, fun q h1 h2 => (hk q (Nat.lt_of_lt_of_le h1 hS.1)).trans (hS.2.1 q h1 h2)⟩)
/-- PageRows.context -/
def mX4_context (f1 : Int32) (p0 : Int32) : Nat ⊕ (Int32 × Int32) :=
  if p0 < 0 then
    .inl 0
  else
    if p0 < (4 : Int32) then
      .inr (f1, p0)
    else
      .inl 0
set_option maxHeartbeats 4000000 in
set_option maxRecDepth 100000 in
theorem c_X4_context (l : Launch) (hl9 : l.stackTraces = false) (dC : Nat → ClassId) (dI : Nat → Nat → Nat) (a : Nat → Nat) (k : Nat → ClassId) (LP : List Nat) (N : Nat) (L : Nat) (f1 f2 f3 f4 f5 f6 f7 f8 : Int32) (rd : Nat) (f10 f11 f12 : Int32) (n : Nat) (f14 : Int32) (lf : Int64) (wd : Nat → Int64) (ho ro pa : Nat → Int32) (rs : Nat → Option Nat) (E : Nat → Nat → Int32)  (sz : Nat) (p0 : Int32)  : vx_Met l yX4_context (wX4_context :: AW) ({ frames := 6, cells := 1, slots := 6, locals := 91 }) (va_Pc [.ref (a 0), .int p0] (CPrX dC dI (CWl a k LP N L f1 f2 f3 f4 f5 f6 f7 f8 rd f10 f11 f12 n f14 lf wd ho ro pa rs E) [(k 0, .long), (k 1, .int), (k 2, .int), (k 3, .object "PageRows$Entry"), (k 4, .int)] sz)) (va_Qi (fun (r : Int32) (u : Int32) => .inr (r, u) = mX4_context f1 p0) (fun (u : Int32) (t : State) => match u with | f1' => va_P (dC, dI) vwCl (CWl a k LP N L f1' f2 f3 f4 f5 f6 f7 f8 rd f10 f11 f12 n f14 lf wd ho ro pa rs E) t.heap ∧ va_K (dC, dI) vwCl [(k 0, .long), (k 1, .int), (k 2, .int), (k 3, .object "PageRows$Entry"), (k 4, .int)] t ∧ va_D (va_A (CWl a k LP N L f1 f2 f3 f4 f5 f6 f7 f8 rd f10 f11 f12 n f14 lf wd ho ro pa rs E) sz) (CWl a k LP N L f1' f2 f3 f4 f5 f6 f7 f8 rd f10 f11 f12 n f14 lf wd ho ro pa rs E)) (va_A (CWl a k LP N L f1 f2 f3 f4 f5 f6 f7 f8 rd f10 f11 f12 n f14 lf wd ho ro pa rs E) sz)) (vx_X (fun u : Nat => .inl u = mX4_context f1 p0) (fun (E9 : String) (u : Nat) (t : State) => E9 = excN u ∧ va_P (dC, dI) vwCl (CWl a k LP N L f1 f2 f3 f4 f5 f6 f7 f8 rd f10 f11 f12 n f14 lf wd ho ro pa rs E) t.heap ∧ va_K (dC, dI) vwCl [(k 0, .long), (k 1, .int), (k 2, .int), (k 3, .object "PageRows$Entry"), (k 4, .int)] t ∧ va_D (va_A (CWl a k LP N L f1 f2 f3 f4 f5 f6 f7 f8 rd f10 f11 f12 n f14 lf wd ho ro pa rs E) sz) (CWl a k LP N L f1 f2 f3 f4 f5 f6 f7 f8 rd f10 f11 f12 n f14 lf wd ho ro pa rs E)) (va_A (CWl a k LP N L f1 f2 f3 f4 f5 f6 f7 f8 rd f10 f11 f12 n f14 lf wd ho ro pa rs E) sz)) 1 6 (va_A (CWl a k LP N L f1 f2 f3 f4 f5 f6 f7 f8 rd f10 f11 f12 n f14 lf wd ho ro pa rs E) sz) := by
  refine cx_ofX (cc := cX4_context) (maxL := 3) (ret := some .int) (by decide) rfl (Nat.le_of_ble_eq_true rfl) ?_
  intro p e s m below meth c ls hx hb hr hts hown hlocks hml hEx hl hB
  have hta : ∀ w ∈ AW, w.before [.ref (a 0), .int p0].toArray s = true := fun w h => hts w (List.mem_cons_of_mem _ h)
  have hl : lv_has ls 3 [(0, .ref (a 0)), (1, .int p0)] := hl
  have hown : s.vm.findClass RX4 = some m.cls := hown
  obtain ⟨⟨rfl, ⟨hP, hK, hN⟩, hD0⟩, hXW, hXZ⟩ := hB
  have hD := hD0.self (sz := s.heap.size)
  generalize hAe : va_A (CWl a k LP N L f1 f2 f3 f4 f5 f6 f7 f8 rd f10 f11 f12 n f14 lf wd ho ro pa rs E) s.heap.size = A at hD hXZ ⊢
  have hA : ∀ q : Nat, s.heap.size ≤ q → A q := fun q h => by rw [← hAe]; exact Or.inr h
  have hS : va_S A s.heap s.heap [] := va_S.rf
  refine lv_iload_n hx hb dX4_context_0 rfl (lv_at hl 1 rfl) ?_
  refine lv_if_lt (tgt := 9) hx hb dX4_context_1 (by decide) (fun c_1_0 => ?_) (fun c_1_0 => ?_)
  · exact cx_throwI hx hb hl9 hown hta aw_236 aw_47 (List.mem_of_getElem? (i := 1) rfl) hXW hXZ hS hl hml dX4_context_9 dX4_context_12 dX4_context_13 dX4_context_15 dX4_context_18 hEx (Nat.le_of_ble_eq_true rfl) (Nat.le_of_ble_eq_true rfl) (Nat.le_of_ble_eq_true rfl) (Nat.le_of_ble_eq_true rfl) hlocks hS.2.2 (Nat.le_of_ble_eq_true rfl) (Nat.le_of_ble_eq_true rfl) (fun t ha hsz hk => ⟨0, (by unfold mX4_context; rewrite [if_pos c_1_0]; (first | done | rfl)), ⟨rfl, hP.kept (fun k q hq => hk q.1 (hP k q hq).lt), va_K.moved ha hK, hD⟩, Nat.le_trans hS.1 hsz, fun q h1 h2 => (hk q (Nat.lt_of_lt_of_le h1 hS.1)).trans (hS.2.1 q h1 h2)⟩)
  · refine lv_iload_n hx hb dX4_context_4 rfl (lv_at hl 1 rfl) ?_
    refine lv_iconst (v := 4) hx hb dX4_context_5 (by decide) ?_
    refine lv_icmp_lt (tgt := 19) hx hb dX4_context_6 (by decide) (fun c_6_1 => ?_) (fun c_6_1 => ?_)
    · refine lv_aload_n hx hb dX4_context_19 rfl (lv_at hl 0 rfl) ?_
      refine va_get (D := (dC, dI)) (ci := 4) (v := .int f1) (C := RX4) (T := TX4) (N := 12) hx hb hta inA_X4 hown hK hP 0 rfl rfl 5 (by decide) (hta _ aw_177) (fun _ h9 => h9) rfl dX4_context_20 ?_
      refine lv_istore_n (lv' := [(2, .int f1), (0, .ref (a 0)), (1, .int p0)]) hx hb dX4_context_23 rfl hl (by decide) rfl (fun ls hl => ?_)
      refine lv_aload_n hx hb dX4_context_24 rfl (lv_at hl 1 rfl) ?_
      refine lv_iload_n hx hb dX4_context_25 rfl (lv_at hl 2 rfl) ?_
      refine va_put (D := (dC, dI)) (ci := 4) (v := .int p0) (ty := .int) (C := RX4) (T := TX4) (N := 12) hx hb hta inA_X4 tyX4 tyX4_ok nmX4 hown hK hP hD hS 0 rfl rfl 5 (by decide) (hta _ aw_177) (fun _ h9 => h9) rfl (by decide +kernel) rfl rfl (Nat.le_of_ble_eq_true rfl) dX4_context_26 (fun H locs hP hD hS => ?_)
      have hP : va_P (dC, dI) vwCl (CWl a k LP N L p0 f2 f3 f4 f5 f6 f7 f8 rd f10 f11 f12 n f14 lf wd ho ro pa rs E) H := hP
      have hD : va_D A (CWl a k LP N L p0 f2 f3 f4 f5 f6 f7 f8 rd f10 f11 f12 n f14 lf wd ho ro pa rs E) := hD
      refine lv_iload_n hx hb dX4_context_29 rfl (lv_at hl 0 rfl) ?_
      refine vx_ret ?_
      refine W.widen (k := 1) (n := 6) (Nat.le_of_ble_eq_true rfl) (Nat.le_of_ble_eq_true rfl) ?_
      exact W.iret (v := f1) hx hb hr (fun t ht hW => ⟨⟨f1, p0, rfl, (by unfold mX4_context; rewrite [if_neg c_1_0]; rewrite [if_pos c_6_1]; (first | done | rfl)), by rw [ht]; exact hP, va_K.moved hW.alike hK, hD⟩, hS.F ht⟩) hS.2.2 dX4_context_30
    · exact cx_throwI hx hb hl9 hown hta aw_236 aw_47 (List.mem_of_getElem? (i := 1) rfl) hXW hXZ hS hl hml dX4_context_9 dX4_context_12 dX4_context_13 dX4_context_15 dX4_context_18 hEx (Nat.le_of_ble_eq_true rfl) (Nat.le_of_ble_eq_true rfl) (Nat.le_of_ble_eq_true rfl) (Nat.le_of_ble_eq_true rfl) hlocks hS.2.2 (Nat.le_of_ble_eq_true rfl) (Nat.le_of_ble_eq_true rfl) (fun t ha hsz hk => ⟨0, (by unfold mX4_context; rewrite [if_neg c_1_0]; rewrite [if_neg c_6_1]; (first | done | rfl)), ⟨rfl, hP.kept (fun k q hq => hk q.1 (hP k q hq).lt), va_K.moved ha hK, hD⟩, Nat.le_trans hS.1 hsz, fun q h1 h2 => (hk q (Nat.lt_of_lt_of_le h1 hS.1)).trans (hS.2.1 q h1 h2)⟩)
/-- PageRows.root -/
def mX4_root (ro : Nat → Int32) (p0 : Int32) (p1 : Int32) : Nat ⊕ (Int32 × (Nat → Int32)) :=
  if p0 < 0 then
    .inl 0
  else
    if p0 < (4 : Int32) then
      if p1 < 0 then
        .inl 1
      else
        if p1 < (256 : Int32) then
          .inr (ro p0.toNatClampNeg, upd ro p0.toNatClampNeg p1)
        else
          .inl 1
    else
      .inl 0
set_option maxHeartbeats 4000000 in
set_option maxRecDepth 100000 in
theorem c_X4_root (l : Launch) (hl9 : l.stackTraces = false) (dC : Nat → ClassId) (dI : Nat → Nat → Nat) (a : Nat → Nat) (k : Nat → ClassId) (LP : List Nat) (N : Nat) (L : Nat) (f1 f2 f3 f4 f5 f6 f7 f8 : Int32) (rd : Nat) (f10 f11 f12 : Int32) (n : Nat) (f14 : Int32) (lf : Int64) (wd : Nat → Int64) (ho ro pa : Nat → Int32) (rs : Nat → Option Nat) (E : Nat → Nat → Int32)  (sz : Nat) (p0 : Int32) (p1 : Int32)  : vx_Met l yX4_root (wX4_root :: AW) ({ frames := 6, cells := 1, slots := 6, locals := 91 }) (va_Pc [.ref (a 0), .int p0, .int p1] (CPrX dC dI (CWl a k LP N L f1 f2 f3 f4 f5 f6 f7 f8 rd f10 f11 f12 n f14 lf wd ho ro pa rs E) [(k 0, .long), (k 1, .int), (k 2, .int), (k 3, .object "PageRows$Entry"), (k 4, .int)] sz)) (va_Qi (fun (r : Int32) (u : (Nat → Int32)) => .inr (r, u) = mX4_root ro p0 p1) (fun (u : (Nat → Int32)) (t : State) => match u with | ro' => va_P (dC, dI) vwCl (CWl a k LP N L f1 f2 f3 f4 f5 f6 f7 f8 rd f10 f11 f12 n f14 lf wd ho ro' pa rs E) t.heap ∧ va_K (dC, dI) vwCl [(k 0, .long), (k 1, .int), (k 2, .int), (k 3, .object "PageRows$Entry"), (k 4, .int)] t ∧ va_D (va_A (CWl a k LP N L f1 f2 f3 f4 f5 f6 f7 f8 rd f10 f11 f12 n f14 lf wd ho ro pa rs E) sz) (CWl a k LP N L f1 f2 f3 f4 f5 f6 f7 f8 rd f10 f11 f12 n f14 lf wd ho ro' pa rs E)) (va_A (CWl a k LP N L f1 f2 f3 f4 f5 f6 f7 f8 rd f10 f11 f12 n f14 lf wd ho ro pa rs E) sz)) (vx_X (fun u : Nat => .inl u = mX4_root ro p0 p1) (fun (E9 : String) (u : Nat) (t : State) => E9 = excN u ∧ va_P (dC, dI) vwCl (CWl a k LP N L f1 f2 f3 f4 f5 f6 f7 f8 rd f10 f11 f12 n f14 lf wd ho ro pa rs E) t.heap ∧ va_K (dC, dI) vwCl [(k 0, .long), (k 1, .int), (k 2, .int), (k 3, .object "PageRows$Entry"), (k 4, .int)] t ∧ va_D (va_A (CWl a k LP N L f1 f2 f3 f4 f5 f6 f7 f8 rd f10 f11 f12 n f14 lf wd ho ro pa rs E) sz) (CWl a k LP N L f1 f2 f3 f4 f5 f6 f7 f8 rd f10 f11 f12 n f14 lf wd ho ro pa rs E)) (va_A (CWl a k LP N L f1 f2 f3 f4 f5 f6 f7 f8 rd f10 f11 f12 n f14 lf wd ho ro pa rs E) sz)) 1 6 (va_A (CWl a k LP N L f1 f2 f3 f4 f5 f6 f7 f8 rd f10 f11 f12 n f14 lf wd ho ro pa rs E) sz) := by
  refine cx_ofX (cc := cX4_root) (maxL := 4) (ret := some .int) (by decide) rfl (Nat.le_of_ble_eq_true rfl) ?_
  intro p e s m below meth c ls hx hb hr hts hown hlocks hml hEx hl hB
  have hta : ∀ w ∈ AW, w.before [.ref (a 0), .int p0, .int p1].toArray s = true := fun w h => hts w (List.mem_cons_of_mem _ h)
  have hl : lv_has ls 4 [(0, .ref (a 0)), (1, .int p0), (2, .int p1)] := hl
  have hown : s.vm.findClass RX4 = some m.cls := hown
  obtain ⟨⟨rfl, ⟨hP, hK, hN⟩, hD0⟩, hXW, hXZ⟩ := hB
  have hD := hD0.self (sz := s.heap.size)
  generalize hAe : va_A (CWl a k LP N L f1 f2 f3 f4 f5 f6 f7 f8 rd f10 f11 f12 n f14 lf wd ho ro pa rs E) s.heap.size = A at hD hXZ ⊢
  have hA : ∀ q : Nat, s.heap.size ≤ q → A q := fun q h => by rw [← hAe]; exact Or.inr h
  have hS : va_S A s.heap s.heap [] := va_S.rf
  refine lv_iload_n hx hb dX4_root_0 rfl (lv_at hl 1 rfl) ?_
  refine lv_if_lt (tgt := 9) hx hb dX4_root_1 (by decide) (fun c_1_0 => ?_) (fun c_1_0 => ?_)
  · exact cx_throwI hx hb hl9 hown hta aw_236 aw_47 (List.mem_of_getElem? (i := 1) rfl) hXW hXZ hS hl hml dX4_root_9 dX4_root_12 dX4_root_13 dX4_root_15 dX4_root_18 hEx (Nat.le_of_ble_eq_true rfl) (Nat.le_of_ble_eq_true rfl) (Nat.le_of_ble_eq_true rfl) (Nat.le_of_ble_eq_true rfl) hlocks hS.2.2 (Nat.le_of_ble_eq_true rfl) (Nat.le_of_ble_eq_true rfl) (fun t ha hsz hk => ⟨0, (by unfold mX4_root; rewrite [if_pos c_1_0]; (first | done | rfl)), ⟨rfl, hP.kept (fun k q hq => hk q.1 (hP k q hq).lt), va_K.moved ha hK, hD⟩, Nat.le_trans hS.1 hsz, fun q h1 h2 => (hk q (Nat.lt_of_lt_of_le h1 hS.1)).trans (hS.2.1 q h1 h2)⟩)
  · refine lv_iload_n hx hb dX4_root_4 rfl (lv_at hl 1 rfl) ?_
    refine lv_iconst (v := 4) hx hb dX4_root_5 (by decide) ?_
    refine lv_icmp_lt (tgt := 19) hx hb dX4_root_6 (by decide) (fun c_6_1 => ?_) (fun c_6_1 => ?_)
    · refine lv_iload_n hx hb dX4_root_19 rfl (lv_at hl 2 rfl) ?_
      refine lv_if_lt (tgt := 30) hx hb dX4_root_20 (by decide) (fun c_20_2 => ?_) (fun c_20_2 => ?_)
      · exact cx_throwA hx hb hl9 hown hta aw_326 aw_48 (List.mem_of_getElem? (i := 2) rfl) hXW hXZ hS hl hml dX4_root_30 dX4_root_33 dX4_root_34 dX4_root_36 dX4_root_39 hEx (Nat.le_of_ble_eq_true rfl) (Nat.le_of_ble_eq_true rfl) (Nat.le_of_ble_eq_true rfl) (Nat.le_of_ble_eq_true rfl) hlocks hS.2.2 (Nat.le_of_ble_eq_true rfl) (Nat.le_of_ble_eq_true rfl) (fun t ha hsz hk => ⟨1, (by unfold mX4_root; rewrite [if_neg c_1_0]; rewrite [if_pos c_6_1]; rewrite [if_pos c_20_2]; (first | done | rfl)), ⟨rfl, hP.kept (fun k q hq => hk q.1 (hP k q hq).lt), va_K.moved ha hK, hD⟩, Nat.le_trans hS.1 hsz, fun q h1 h2 => (hk q (Nat.lt_of_lt_of_le h1 hS.1)).trans (hS.2.1 q h1 h2)⟩)
      · refine lv_iload_n hx hb dX4_root_23 rfl (lv_at hl 2 rfl) ?_
        refine lv_sipush (v := 256) hx hb dX4_root_24 (by decide) ?_
        refine lv_icmp_lt (tgt := 40) hx hb dX4_root_27 (by decide) (fun c_27_3 => ?_) (fun c_27_3 => ?_)
        · refine lv_aload_n hx hb dX4_root_40 rfl (lv_at hl 0 rfl) ?_
          refine va_get (D := (dC, dI)) (ci := 4) (v := .ref (a 8)) (C := RX4) (T := TX4) (N := 12) hx hb hta inA_X4 hown hK hP 0 rfl rfl 4 (by decide) (hta _ aw_176) (fun _ h9 => h9) rfl dX4_root_41 ?_
          refine lv_iload_n hx hb dX4_root_44 rfl (lv_at hl 1 rfl) ?_
          refine va_iald hx hb hK hP 8 4 rfl rfl (cx_inl c_1_0 c_6_1 rfl) dX4_root_45 ?_
          refine lv_istore_n (lv' := [(3, .int (ro p0.toNatClampNeg)), (0, .ref (a 0)), (1, .int p0), (2, .int p1)]) hx hb dX4_root_46 rfl hl (by decide) rfl (fun ls hl => ?_)
          refine lv_aload_n hx hb dX4_root_47 rfl (lv_at hl 1 rfl) ?_
          refine va_get (D := (dC, dI)) (ci := 4) (v := .ref (a 8)) (C := RX4) (T := TX4) (N := 12) hx hb hta inA_X4 hown hK hP 0 rfl rfl 4 (by decide) (hta _ aw_176) (fun _ h9 => h9) rfl dX4_root_48 ?_
          refine lv_iload_n hx hb dX4_root_51 rfl (lv_at hl 2 rfl) ?_
          refine lv_iload_n hx hb dX4_root_52 rfl (lv_at hl 3 rfl) ?_
          refine va_iast hx hb hK hP hD hS 8 4 rfl rfl (cx_inl c_1_0 c_6_1 rfl) dX4_root_53 (fun H locs hP hD hS => ?_)
          have hP : va_P (dC, dI) vwCl (CWl a k LP N L f1 f2 f3 f4 f5 f6 f7 f8 rd f10 f11 f12 n f14 lf wd ho (upd ro p0.toNatClampNeg p1) pa rs E) H := hP
          have hD : va_D A (CWl a k LP N L f1 f2 f3 f4 f5 f6 f7 f8 rd f10 f11 f12 n f14 lf wd ho (upd ro p0.toNatClampNeg p1) pa rs E) := hD
          refine lv_iload_n hx hb dX4_root_54 rfl (lv_at hl 0 rfl) ?_
          refine vx_ret ?_
          refine W.widen (k := 1) (n := 6) (Nat.le_of_ble_eq_true rfl) (Nat.le_of_ble_eq_true rfl) ?_
          exact W.iret (v := ro p0.toNatClampNeg) hx hb hr (fun t ht hW => ⟨⟨ro p0.toNatClampNeg, upd ro p0.toNatClampNeg p1, rfl, (by unfold mX4_root; rewrite [if_neg c_1_0]; rewrite [if_pos c_6_1]; rewrite [if_neg c_20_2]; rewrite [if_pos c_27_3]; (first | done | rfl)), by rw [ht]; exact hP, va_K.moved hW.alike hK, hD⟩, hS.F ht⟩) hS.2.2 dX4_root_55
        · exact cx_throwA hx hb hl9 hown hta aw_326 aw_48 (List.mem_of_getElem? (i := 2) rfl) hXW hXZ hS hl hml dX4_root_30 dX4_root_33 dX4_root_34 dX4_root_36 dX4_root_39 hEx (Nat.le_of_ble_eq_true rfl) (Nat.le_of_ble_eq_true rfl) (Nat.le_of_ble_eq_true rfl) (Nat.le_of_ble_eq_true rfl) hlocks hS.2.2 (Nat.le_of_ble_eq_true rfl) (Nat.le_of_ble_eq_true rfl) (fun t ha hsz hk => ⟨1, (by unfold mX4_root; rewrite [if_neg c_1_0]; rewrite [if_pos c_6_1]; rewrite [if_neg c_20_2]; rewrite [if_neg c_27_3]; (first | done | rfl)), ⟨rfl, hP.kept (fun k q hq => hk q.1 (hP k q hq).lt), va_K.moved ha hK, hD⟩, Nat.le_trans hS.1 hsz, fun q h1 h2 => (hk q (Nat.lt_of_lt_of_le h1 hS.1)).trans (hS.2.1 q h1 h2)⟩)
    · exact cx_throwI hx hb hl9 hown hta aw_236 aw_47 (List.mem_of_getElem? (i := 1) rfl) hXW hXZ hS hl hml dX4_root_9 dX4_root_12 dX4_root_13 dX4_root_15 dX4_root_18 hEx (Nat.le_of_ble_eq_true rfl) (Nat.le_of_ble_eq_true rfl) (Nat.le_of_ble_eq_true rfl) (Nat.le_of_ble_eq_true rfl) hlocks hS.2.2 (Nat.le_of_ble_eq_true rfl) (Nat.le_of_ble_eq_true rfl) (fun t ha hsz hk => ⟨0, (by unfold mX4_root; rewrite [if_neg c_1_0]; rewrite [if_neg c_6_1]; (first | done | rfl)), ⟨rfl, hP.kept (fun k q hq => hk q.1 (hP k q hq).lt), va_K.moved ha hK, hD⟩, Nat.le_trans hS.1 hsz, fun q h1 h2 => (hk q (Nat.lt_of_lt_of_le h1 hS.1)).trans (hS.2.1 q h1 h2)⟩)
/-- PageRows.host -/
def mX4_host (ho : Nat → Int32) (p0 : Int32) (p1 : Int32) : Nat ⊕ (Int32 × (Nat → Int32)) :=
  if p0 < 0 then
    .inl 0
  else
    if p0 < (256 : Int32) then
      if p1 < (-1 : Int32) then
        .inl 1
      else
        if p1 ≤ (65535 : Int32) then
          .inr (ho p0.toNatClampNeg, upd ho p0.toNatClampNeg p1)
        else
          .inl 1
    else
      .inl 0
set_option maxHeartbeats 4000000 in
set_option maxRecDepth 100000 in
theorem c_X4_host (l : Launch) (hl9 : l.stackTraces = false) (dC : Nat → ClassId) (dI : Nat → Nat → Nat) (a : Nat → Nat) (k : Nat → ClassId) (LP : List Nat) (N : Nat) (L : Nat) (f1 f2 f3 f4 f5 f6 f7 f8 : Int32) (rd : Nat) (f10 f11 f12 : Int32) (n : Nat) (f14 : Int32) (lf : Int64) (wd : Nat → Int64) (ho ro pa : Nat → Int32) (rs : Nat → Option Nat) (E : Nat → Nat → Int32)  (sz : Nat) (p0 : Int32) (p1 : Int32)  : vx_Met l yX4_host (wX4_host :: AW) ({ frames := 6, cells := 1, slots := 6, locals := 91 }) (va_Pc [.ref (a 0), .int p0, .int p1] (CPrX dC dI (CWl a k LP N L f1 f2 f3 f4 f5 f6 f7 f8 rd f10 f11 f12 n f14 lf wd ho ro pa rs E) [(k 0, .long), (k 1, .int), (k 2, .int), (k 3, .object "PageRows$Entry"), (k 4, .int)] sz)) (va_Qi (fun (r : Int32) (u : (Nat → Int32)) => .inr (r, u) = mX4_host ho p0 p1) (fun (u : (Nat → Int32)) (t : State) => match u with | ho' => va_P (dC, dI) vwCl (CWl a k LP N L f1 f2 f3 f4 f5 f6 f7 f8 rd f10 f11 f12 n f14 lf wd ho' ro pa rs E) t.heap ∧ va_K (dC, dI) vwCl [(k 0, .long), (k 1, .int), (k 2, .int), (k 3, .object "PageRows$Entry"), (k 4, .int)] t ∧ va_D (va_A (CWl a k LP N L f1 f2 f3 f4 f5 f6 f7 f8 rd f10 f11 f12 n f14 lf wd ho ro pa rs E) sz) (CWl a k LP N L f1 f2 f3 f4 f5 f6 f7 f8 rd f10 f11 f12 n f14 lf wd ho' ro pa rs E)) (va_A (CWl a k LP N L f1 f2 f3 f4 f5 f6 f7 f8 rd f10 f11 f12 n f14 lf wd ho ro pa rs E) sz)) (vx_X (fun u : Nat => .inl u = mX4_host ho p0 p1) (fun (E9 : String) (u : Nat) (t : State) => E9 = excN u ∧ va_P (dC, dI) vwCl (CWl a k LP N L f1 f2 f3 f4 f5 f6 f7 f8 rd f10 f11 f12 n f14 lf wd ho ro pa rs E) t.heap ∧ va_K (dC, dI) vwCl [(k 0, .long), (k 1, .int), (k 2, .int), (k 3, .object "PageRows$Entry"), (k 4, .int)] t ∧ va_D (va_A (CWl a k LP N L f1 f2 f3 f4 f5 f6 f7 f8 rd f10 f11 f12 n f14 lf wd ho ro pa rs E) sz) (CWl a k LP N L f1 f2 f3 f4 f5 f6 f7 f8 rd f10 f11 f12 n f14 lf wd ho ro pa rs E)) (va_A (CWl a k LP N L f1 f2 f3 f4 f5 f6 f7 f8 rd f10 f11 f12 n f14 lf wd ho ro pa rs E) sz)) 1 6 (va_A (CWl a k LP N L f1 f2 f3 f4 f5 f6 f7 f8 rd f10 f11 f12 n f14 lf wd ho ro pa rs E) sz) := by
  refine cx_ofX (cc := cX4_host) (maxL := 4) (ret := some .int) (by decide) rfl (Nat.le_of_ble_eq_true rfl) ?_
  intro p e s m below meth c ls hx hb hr hts hown hlocks hml hEx hl hB
  have hta : ∀ w ∈ AW, w.before [.ref (a 0), .int p0, .int p1].toArray s = true := fun w h => hts w (List.mem_cons_of_mem _ h)
  have hl : lv_has ls 4 [(0, .ref (a 0)), (1, .int p0), (2, .int p1)] := hl
  have hown : s.vm.findClass RX4 = some m.cls := hown
  obtain ⟨⟨rfl, ⟨hP, hK, hN⟩, hD0⟩, hXW, hXZ⟩ := hB
  have hD := hD0.self (sz := s.heap.size)
  generalize hAe : va_A (CWl a k LP N L f1 f2 f3 f4 f5 f6 f7 f8 rd f10 f11 f12 n f14 lf wd ho ro pa rs E) s.heap.size = A at hD hXZ ⊢
  have hA : ∀ q : Nat, s.heap.size ≤ q → A q := fun q h => by rw [← hAe]; exact Or.inr h
  have hS : va_S A s.heap s.heap [] := va_S.rf
  refine lv_iload_n hx hb dX4_host_0 rfl (lv_at hl 1 rfl) ?_
  refine lv_if_lt (tgt := 11) hx hb dX4_host_1 (by decide) (fun c_1_0 => ?_) (fun c_1_0 => ?_)
  · exact cx_throwI hx hb hl9 hown hta aw_236 aw_47 (List.mem_of_getElem? (i := 2) rfl) hXW hXZ hS hl hml dX4_host_11 dX4_host_14 dX4_host_15 dX4_host_17 dX4_host_20 hEx (Nat.le_of_ble_eq_true rfl) (Nat.le_of_ble_eq_true rfl) (Nat.le_of_ble_eq_true rfl) (Nat.le_of_ble_eq_true rfl) hlocks hS.2.2 (Nat.le_of_ble_eq_true rfl) (Nat.le_of_ble_eq_true rfl) (fun t ha hsz hk => ⟨0, (by unfold mX4_host; rewrite [if_pos c_1_0]; (first | done | rfl)), ⟨rfl, hP.kept (fun k q hq => hk q.1 (hP k q hq).lt), va_K.moved ha hK, hD⟩, Nat.le_trans hS.1 hsz, fun q h1 h2 => (hk q (Nat.lt_of_lt_of_le h1 hS.1)).trans (hS.2.1 q h1 h2)⟩)
  · refine lv_iload_n hx hb dX4_host_4 rfl (lv_at hl 1 rfl) ?_
    refine lv_sipush (v := 256) hx hb dX4_host_5 (by decide) ?_
    refine lv_icmp_lt (tgt := 21) hx hb dX4_host_8 (by decide) (fun c_8_1 => ?_) (fun c_8_1 => ?_)
    · refine lv_iload_n hx hb dX4_host_21 rfl (lv_at hl 2 rfl) ?_
      refine lv_iconst (v := (-1)) hx hb dX4_host_22 (by decide) ?_
      refine lv_icmp_lt (tgt := 32) hx hb dX4_host_23 (by decide) (fun c_23_2 => ?_) (fun c_23_2 => ?_)
      · exact cx_throwA hx hb hl9 hown hta aw_326 aw_48 (List.mem_of_getElem? (i := 3) rfl) hXW hXZ hS hl hml dX4_host_32 dX4_host_35 dX4_host_36 dX4_host_38 dX4_host_41 hEx (Nat.le_of_ble_eq_true rfl) (Nat.le_of_ble_eq_true rfl) (Nat.le_of_ble_eq_true rfl) (Nat.le_of_ble_eq_true rfl) hlocks hS.2.2 (Nat.le_of_ble_eq_true rfl) (Nat.le_of_ble_eq_true rfl) (fun t ha hsz hk => ⟨1, (by unfold mX4_host; rewrite [if_neg c_1_0]; rewrite [if_pos c_8_1]; rewrite [if_pos c_23_2]; (first | done | rfl)), ⟨rfl, hP.kept (fun k q hq => hk q.1 (hP k q hq).lt), va_K.moved ha hK, hD⟩, Nat.le_trans hS.1 hsz, fun q h1 h2 => (hk q (Nat.lt_of_lt_of_le h1 hS.1)).trans (hS.2.1 q h1 h2)⟩)
      · refine lv_iload_n hx hb dX4_host_26 rfl (lv_at hl 2 rfl) ?_
        refine lv_ldc (v := 65535) hx hb hown (hta _ aw_349) dX4_host_27 ?_
        refine lv_icmp_le (tgt := 42) hx hb dX4_host_29 (by decide) (fun c_29_3 => ?_) (fun c_29_3 => ?_)
        · refine lv_aload_n hx hb dX4_host_42 rfl (lv_at hl 0 rfl) ?_
          refine va_get (D := (dC, dI)) (ci := 4) (v := .ref (a 1)) (C := RX4) (T := TX4) (N := 12) hx hb hta inA_X4 hown hK hP 0 rfl rfl 1 (by decide) (hta _ aw_173) (fun _ h9 => h9) rfl dX4_host_43 ?_
          refine va_getN (D := (dC, dI)) (ci := 2) (v := .ref (a 3)) (C := RX2) (T := TX2) (N := 3) hx hb hta inA_X2 hown hK hP 1 rfl rfl 1 (by decide) (hN.nf 2 rfl) (fun _ h9 => h9) rfl dX4_host_46 ?_
          refine lv_iload_n hx hb dX4_host_49 rfl (lv_at hl 1 rfl) ?_
          refine va_iald hx hb hK hP 3 1 rfl rfl (cx_inl c_1_0 c_8_1 rfl) dX4_host_50 ?_
          refine lv_istore_n (lv' := [(3, .int (ho p0.toNatClampNeg)), (0, .ref (a 0)), (1, .int p0), (2, .int p1)]) hx hb dX4_host_51 rfl hl (by decide) rfl (fun ls hl => ?_)
          refine lv_aload_n hx hb dX4_host_52 rfl (lv_at hl 1 rfl) ?_
          refine va_get (D := (dC, dI)) (ci := 4) (v := .ref (a 1)) (C := RX4) (T := TX4) (N := 12) hx hb hta inA_X4 hown hK hP 0 rfl rfl 1 (by decide) (hta _ aw_173) (fun _ h9 => h9) rfl dX4_host_53 ?_
          refine va_getN (D := (dC, dI)) (ci := 2) (v := .ref (a 3)) (C := RX2) (T := TX2) (N := 3) hx hb hta inA_X2 hown hK hP 1 rfl rfl 1 (by decide) (hN.nf 2 rfl) (fun _ h9 => h9) rfl dX4_host_56 ?_
          refine lv_iload_n hx hb dX4_host_59 rfl (lv_at hl 2 rfl) ?_
          refine lv_iload_n hx hb dX4_host_60 rfl (lv_at hl 3 rfl) ?_
          refine va_iast hx hb hK hP hD hS 3 1 rfl rfl (cx_inl c_1_0 c_8_1 rfl) dX4_host_61 (fun H locs hP hD hS => ?_)
          have hP : va_P (dC, dI) vwCl (CWl a k LP N L f1 f2 f3 f4 f5 f6 f7 f8 rd f10 f11 f12 n f14 lf wd (upd ho p0.toNatClampNeg p1) ro pa rs E) H := hP
          have hD : va_D A (CWl a k LP N L f1 f2 f3 f4 f5 f6 f7 f8 rd f10 f11 f12 n f14 lf wd (upd ho p0.toNatClampNeg p1) ro pa rs E) := hD
          refine lv_iload_n hx hb dX4_host_62 rfl (lv_at hl 0 rfl) ?_
          refine vx_ret ?_
          refine W.widen (k := 1) (n := 6) (Nat.le_of_ble_eq_true rfl) (Nat.le_of_ble_eq_true rfl) ?_
          exact W.iret (v := ho p0.toNatClampNeg) hx hb hr (fun t ht hW => ⟨⟨ho p0.toNatClampNeg, upd ho p0.toNatClampNeg p1, rfl, (by unfold mX4_host; rewrite [if_neg c_1_0]; rewrite [if_pos c_8_1]; rewrite [if_neg c_23_2]; rewrite [if_pos c_29_3]; (first | done | rfl)), by rw [ht]; exact hP, va_K.moved hW.alike hK, hD⟩, hS.F ht⟩) hS.2.2 dX4_host_63
        · exact cx_throwA hx hb hl9 hown hta aw_326 aw_48 (List.mem_of_getElem? (i := 3) rfl) hXW hXZ hS hl hml dX4_host_32 dX4_host_35 dX4_host_36 dX4_host_38 dX4_host_41 hEx (Nat.le_of_ble_eq_true rfl) (Nat.le_of_ble_eq_true rfl) (Nat.le_of_ble_eq_true rfl) (Nat.le_of_ble_eq_true rfl) hlocks hS.2.2 (Nat.le_of_ble_eq_true rfl) (Nat.le_of_ble_eq_true rfl) (fun t ha hsz hk => ⟨1, (by unfold mX4_host; rewrite [if_neg c_1_0]; rewrite [if_pos c_8_1]; rewrite [if_neg c_23_2]; rewrite [if_neg c_29_3]; (first | done | rfl)), ⟨rfl, hP.kept (fun k q hq => hk q.1 (hP k q hq).lt), va_K.moved ha hK, hD⟩, Nat.le_trans hS.1 hsz, fun q h1 h2 => (hk q (Nat.lt_of_lt_of_le h1 hS.1)).trans (hS.2.1 q h1 h2)⟩)
    · exact cx_throwI hx hb hl9 hown hta aw_236 aw_47 (List.mem_of_getElem? (i := 2) rfl) hXW hXZ hS hl hml dX4_host_11 dX4_host_14 dX4_host_15 dX4_host_17 dX4_host_20 hEx (Nat.le_of_ble_eq_true rfl) (Nat.le_of_ble_eq_true rfl) (Nat.le_of_ble_eq_true rfl) (Nat.le_of_ble_eq_true rfl) hlocks hS.2.2 (Nat.le_of_ble_eq_true rfl) (Nat.le_of_ble_eq_true rfl) (fun t ha hsz hk => ⟨0, (by unfold mX4_host; rewrite [if_neg c_1_0]; rewrite [if_neg c_8_1]; (first | done | rfl)), ⟨rfl, hP.kept (fun k q hq => hk q.1 (hP k q hq).lt), va_K.moved ha hK, hD⟩, Nat.le_trans hS.1 hsz, fun q h1 h2 => (hk q (Nat.lt_of_lt_of_le h1 hS.1)).trans (hS.2.1 q h1 h2)⟩)
/-- PageRows.hosts -/
def mX4_hosts (f8 : Int32) (p0 : Int32) : Int32 × Int32 :=
  (f8, p0)
set_option maxHeartbeats 4000000 in
set_option maxRecDepth 100000 in
theorem c_X4_hosts (l : Launch) (dC : Nat → ClassId) (dI : Nat → Nat → Nat) (a : Nat → Nat) (k : Nat → ClassId) (LP : List Nat) (N : Nat) (L : Nat) (f1 f2 f3 f4 f5 f6 f7 f8 : Int32) (rd : Nat) (f10 f11 f12 : Int32) (n : Nat) (f14 : Int32) (lf : Int64) (wd : Nat → Int64) (ho ro pa : Nat → Int32) (rs : Nat → Option Nat) (E : Nat → Nat → Int32)  (sz : Nat) (p0 : Int32) (hz : narrow .boolean (.int p0) = .int p0) (hz8 : narrow .boolean (.int f8) = .int f8) : Met l yX4_hosts (wX4_hosts :: AW) ({ frames := 0, cells := 0, slots := 0, locals := 0 }) (va_Pc [.ref (a 0), .int p0] (CPrQ dC dI (CWl a k LP N L f1 f2 f3 f4 f5 f6 f7 f8 rd f10 f11 f12 n f14 lf wd ho ro pa rs E) [(k 0, .long), (k 1, .int), (k 2, .int), (k 3, .object "PageRows$Entry"), (k 4, .int)] sz)) (va_Qi (fun (r : Int32) (u : Int32) => (r, u) = mX4_hosts f8 p0) (fun (u : Int32) (t : State) => match u with | f8' => va_P (dC, dI) vwCl (CWl a k LP N L f1 f2 f3 f4 f5 f6 f7 f8' rd f10 f11 f12 n f14 lf wd ho ro pa rs E) t.heap ∧ va_K (dC, dI) vwCl [(k 0, .long), (k 1, .int), (k 2, .int), (k 3, .object "PageRows$Entry"), (k 4, .int)] t ∧ va_D (va_A (CWl a k LP N L f1 f2 f3 f4 f5 f6 f7 f8 rd f10 f11 f12 n f14 lf wd ho ro pa rs E) sz) (CWl a k LP N L f1 f2 f3 f4 f5 f6 f7 f8' rd f10 f11 f12 n f14 lf wd ho ro pa rs E)) (va_A (CWl a k LP N L f1 f2 f3 f4 f5 f6 f7 f8 rd f10 f11 f12 n f14 lf wd ho ro pa rs E) sz)) 0 0 (va_A (CWl a k LP N L f1 f2 f3 f4 f5 f6 f7 f8 rd f10 f11 f12 n f14 lf wd ho ro pa rs E) sz) := by
  refine cx_of (cc := cX4_hosts) (maxL := 3) (ret := some .boolean) (by decide) rfl (Nat.le_of_ble_eq_true rfl) ?_
  intro p e s m below meth c ls hx hb hr hts hown hlocks hml hnm hl hB
  have hta : ∀ w ∈ AW, w.before [.ref (a 0), .int p0].toArray s = true := fun w h => hts w (List.mem_cons_of_mem _ h)
  have hl : lv_has ls 3 [(0, .ref (a 0)), (1, .int p0)] := hl
  have hown : s.vm.findClass RX4 = some m.cls := hown
  obtain ⟨rfl, ⟨hP, hK, hN⟩, hD0⟩ := hB
  have hD := hD0.self (sz := s.heap.size)
  generalize hAe : va_A (CWl a k LP N L f1 f2 f3 f4 f5 f6 f7 f8 rd f10 f11 f12 n f14 lf wd ho ro pa rs E) s.heap.size = A at hD ⊢
  have hA : ∀ q : Nat, s.heap.size ≤ q → A q := fun q h => by rw [← hAe]; exact Or.inr h
  have hS : va_S A s.heap s.heap [] := va_S.rf
  refine lv_aload_n hx hb dX4_hosts_0 rfl (lv_at hl 0 rfl) ?_
  refine va_get (D := (dC, dI)) (ci := 4) (v := .ref (a 1)) (C := RX4) (T := TX4) (N := 12) hx hb hta inA_X4 hown hK hP 0 rfl rfl 1 (by decide) (hta _ aw_173) (fun _ h9 => h9) rfl dX4_hosts_1 ?_
  refine va_getN (D := (dC, dI)) (ci := 2) (v := .int f8) (C := RX2) (T := TX2) (N := 3) hx hb hta inA_X2 hown hK hP 1 rfl rfl 2 (by decide) (hN.nf 3 rfl) (fun _ h9 => h9) rfl dX4_hosts_4 ?_
  refine lv_istore_n (lv' := [(2, .int f8), (0, .ref (a 0)), (1, .int p0)]) hx hb dX4_hosts_7 rfl hl (by decide) rfl (fun ls hl => ?_)
  refine lv_aload_n hx hb dX4_hosts_8 rfl (lv_at hl 1 rfl) ?_
  refine va_get (D := (dC, dI)) (ci := 4) (v := .ref (a 1)) (C := RX4) (T := TX4) (N := 12) hx hb hta inA_X4 hown hK hP 0 rfl rfl 1 (by decide) (hta _ aw_173) (fun _ h9 => h9) rfl dX4_hosts_9 ?_
  refine lv_iload_n hx hb dX4_hosts_12 rfl (lv_at hl 2 rfl) ?_
  refine va_putN (D := (dC, dI)) (ci := 2) (v := .int p0) (ty := .boolean) (C := RX2) (T := TX2) (N := 3) hx hb hta inA_X2 tyX2 tyX2_ok nmX2 hown hK hP hD hS 1 rfl rfl 2 (by decide) (hN.nf 3 rfl) (fun _ h9 => h9) rfl (by decide +kernel) hz (cx_fitZ hz) (Nat.le_of_ble_eq_true rfl) dX4_hosts_13 (fun H locs hP hD hS => ?_)
  have hP : va_P (dC, dI) vwCl (CWl a k LP N L f1 f2 f3 f4 f5 f6 f7 p0 rd f10 f11 f12 n f14 lf wd ho ro pa rs E) H := hP
  have hD : va_D A (CWl a k LP N L f1 f2 f3 f4 f5 f6 f7 p0 rd f10 f11 f12 n f14 lf wd ho ro pa rs E) := hD
  refine lv_iload_n hx hb dX4_hosts_16 rfl (lv_at hl 0 rfl) ?_
  exact W.zret (ty := .boolean) (v := f8) hx hb hr hz8 (fun t ht hW => ⟨⟨f8, p0, rfl, (by unfold mX4_hosts; (first | done | rfl)), by rw [ht]; exact hP, va_K.moved hW.alike hK, hD⟩, hS.F ht⟩) hS.2.2 dX4_hosts_17
/-- PageRows.plain -/
def mX4_plain (L : Nat) (f1 : Int32) (f8 : Int32) (f10 : Int32) (lf : Int64) (wd : Nat → Int64) (ho : Nat → Int32) (ro : Nat → Int32) (pa : Nat → Int32) (p0 : Int32) (p1 : Int32) : Nat ⊕ (Int32 × Nat × Int64 × Int32 × Int32 × Int32 × (Nat → Int32)) :=
  if (mX4_isKind p1) = 0 then
    .inl 1
  else
    match mFol L f8 wd ho f10 lf pa (ro f1.toNatClampNeg) p0 p1 with
    | (r_3, rd_3, lf_3, f10_3, f11_3, f12_3, pa_3) =>
      if r_3 = 0 then
        .inr (f12_3, rd_3, lf_3, f10_3, f11_3, f12_3, pa_3)
      else
        .inr (-r_3, rd_3, lf_3, f10_3, f11_3, f12_3, pa_3)
set_option maxHeartbeats 4000000 in
set_option maxRecDepth 100000 in
theorem c_X4_plain (l : Launch) (hl9 : l.stackTraces = false) (dC : Nat → ClassId) (dI : Nat → Nat → Nat) (a : Nat → Nat) (k : Nat → ClassId) (LP : List Nat) (N : Nat) (L : Nat) (f1 f2 f3 f4 f5 f6 f7 f8 : Int32) (rd : Nat) (f10 f11 f12 : Int32) (n : Nat) (f14 : Int32) (lf : Int64) (wd : Nat → Int64) (ho ro pa : Nat → Int32) (rs : Nat → Option Nat) (E : Nat → Nat → Int32)  (sz : Nat) (p0 : Int32) (p1 : Int32) (hL1 : 1 ≤ L) (hL4 : L ≤ 4) (hho : HOK ho) (hf1 : vp_in f1 4) (hro : ¬ ro f1.toNatClampNeg < 0) : vx_Met l yX4_plain (wX4_plain :: AW) ({ frames := 6, cells := 1, slots := 6, locals := 91 }) (va_Pc [.ref (a 0), .int p0, .int p1] (CPrX dC dI (CWl a k LP N L f1 f2 f3 f4 f5 f6 f7 f8 rd f10 f11 f12 n f14 lf wd ho ro pa rs E) [(k 0, .long), (k 1, .int), (k 2, .int), (k 3, .object "PageRows$Entry"), (k 4, .int)] sz)) (va_Qi (fun (r : Int32) (u : Nat × Int64 × Int32 × Int32 × Int32 × (Nat → Int32)) => .inr (r, u) = mX4_plain L f1 f8 f10 lf wd ho ro pa p0 p1) (fun (u : Nat × Int64 × Int32 × Int32 × Int32 × (Nat → Int32)) (t : State) => match u with | (rd', lf', f10', f11', f12', pa') => va_P (dC, dI) vwCl (CWl a k LP N L f1 f2 f3 f4 f5 f6 f7 f8 rd' f10' f11' f12' n f14 lf' wd ho ro pa' rs E) t.heap ∧ va_K (dC, dI) vwCl [(k 0, .long), (k 1, .int), (k 2, .int), (k 3, .object "PageRows$Entry"), (k 4, .int)] t ∧ va_D (va_A (CWl a k LP N L f1 f2 f3 f4 f5 f6 f7 f8 rd f10 f11 f12 n f14 lf wd ho ro pa rs E) sz) (CWl a k LP N L f1 f2 f3 f4 f5 f6 f7 f8 rd' f10' f11' f12' n f14 lf' wd ho ro pa' rs E)) (va_A (CWl a k LP N L f1 f2 f3 f4 f5 f6 f7 f8 rd f10 f11 f12 n f14 lf wd ho ro pa rs E) sz)) (vx_X (fun u : Nat => .inl u = mX4_plain L f1 f8 f10 lf wd ho ro pa p0 p1) (fun (E9 : String) (u : Nat) (t : State) => E9 = excN u ∧ va_P (dC, dI) vwCl (CWl a k LP N L f1 f2 f3 f4 f5 f6 f7 f8 rd f10 f11 f12 n f14 lf wd ho ro pa rs E) t.heap ∧ va_K (dC, dI) vwCl [(k 0, .long), (k 1, .int), (k 2, .int), (k 3, .object "PageRows$Entry"), (k 4, .int)] t ∧ va_D (va_A (CWl a k LP N L f1 f2 f3 f4 f5 f6 f7 f8 rd f10 f11 f12 n f14 lf wd ho ro pa rs E) sz) (CWl a k LP N L f1 f2 f3 f4 f5 f6 f7 f8 rd f10 f11 f12 n f14 lf wd ho ro pa rs E)) (va_A (CWl a k LP N L f1 f2 f3 f4 f5 f6 f7 f8 rd f10 f11 f12 n f14 lf wd ho ro pa rs E) sz)) 1 6 (va_A (CWl a k LP N L f1 f2 f3 f4 f5 f6 f7 f8 rd f10 f11 f12 n f14 lf wd ho ro pa rs E) sz) := by
  refine cx_ofX (cc := cX4_plain) (maxL := 4) (ret := some .int) (by decide) rfl (Nat.le_of_ble_eq_true rfl) ?_
  intro p e s m below meth c ls hx hb hr hts hown hlocks hml hEx hl hB
  have hta : ∀ w ∈ AW, w.before [.ref (a 0), .int p0, .int p1].toArray s = true := fun w h => hts w (List.mem_cons_of_mem _ h)
  have hl : lv_has ls 4 [(0, .ref (a 0)), (1, .int p0), (2, .int p1)] := hl
  have hown : s.vm.findClass RX4 = some m.cls := hown
  obtain ⟨⟨rfl, ⟨hP, hK, hN⟩, hD0⟩, hXW, hXZ⟩ := hB
  have hD := hD0.self (sz := s.heap.size)
  generalize hAe : va_A (CWl a k LP N L f1 f2 f3 f4 f5 f6 f7 f8 rd f10 f11 f12 n f14 lf wd ho ro pa rs E) s.heap.size = A at hD hXZ ⊢
  have hA : ∀ q : Nat, s.heap.size ≤ q → A q := fun q h => by rw [← hAe]; exact Or.inr h
  have hS : va_S A s.heap s.heap [] := va_S.rf
  refine lv_iload_n hx hb dX4_plain_0 rfl (lv_at hl 2 rfl) ?_
  refine cx_callSi (va_runS (As := [.int p1]) (rest := []) ⟨hx, hb, hml, hown, hta⟩ (c_X4_isKind l p1) (va_cwS 1 hta (gS aw_358 aw_359 aw_38 aw_360) rfl rfl rfl (by decide +kernel) ⟨Nat.le_of_ble_eq_true rfl, Nat.le_of_ble_eq_true rfl⟩) cx_pre0 rfl rfl hl.1 rfl (lv_room (Nat.le_of_ble_eq_true rfl)) dX4_plain_1 ⟨Nat.le_of_ble_eq_true rfl, Nat.le_of_ble_eq_true rfl⟩) (fun r hw_1 => ?_)
  subst hw_1
  refine lv_if_ne (tgt := 17) hx hb dX4_plain_4 (by decide) (fun c_4_1 => ?_) (fun c_4_1 => ?_)
  · refine lv_aload_n hx hb dX4_plain_17 rfl (lv_at hl 0 rfl) ?_
    refine va_get (D := (dC, dI)) (ci := 4) (v := .ref (a 4)) (C := RX4) (T := TX4) (N := 12) hx hb hta inA_X4 hown hK hP 0 rfl rfl 2 (by decide) (hta _ aw_174) (fun _ h9 => h9) rfl dX4_plain_18 ?_
    refine lv_aload_n hx hb dX4_plain_21 rfl (lv_at hl 0 rfl) ?_
    refine va_get (D := (dC, dI)) (ci := 4) (v := .ref (a 8)) (C := RX4) (T := TX4) (N := 12) hx hb hta inA_X4 hown hK hP 0 rfl rfl 4 (by decide) (hta _ aw_176) (fun _ h9 => h9) rfl dX4_plain_22 ?_
    refine lv_aload_n hx hb dX4_plain_25 rfl (lv_at hl 0 rfl) ?_
    refine va_get (D := (dC, dI)) (ci := 4) (v := .int f1) (C := RX4) (T := TX4) (N := 12) hx hb hta inA_X4 hown hK hP 0 rfl rfl 5 (by decide) (hta _ aw_177) (fun _ h9 => h9) rfl dX4_plain_26 ?_
    refine va_iald hx hb hK hP 8 4 rfl rfl hf1 dX4_plain_29 ?_
    refine lv_iload_n hx hb dX4_plain_30 rfl (lv_at hl 1 rfl) ?_
    refine lv_iload_n hx hb dX4_plain_31 rfl (lv_at hl 2 rfl) ?_
    have hFc : ∀ q, va_A (CWl a k LP N L f1 f2 f3 f4 f5 f6 f7 f8 rd f10 f11 f12 n f14 lf wd ho ro pa rs E) s.heap.size q → A q := cx_free hD hS hA
    refine va_calli (va_runVN (As := [.int (ro f1.toNatClampNeg), .int p0, .int p1]) (rest := []) ⟨hx, hb, hml, hown, hta⟩ (c_X3_follow l dC dI a k LP N L f1 f2 f3 f4 f5 f6 f7 f8 rd f10 f11 f12 n f14 lf wd ho ro pa rs E s.heap.size (ro f1.toNatClampNeg) p0 p1 hL1 hL4 hho hro) ⟨va_cnB 3 hta (gC aw_389) rfl rfl rfl (hN.nm 7 rfl) (hta _ aw_40) (by decide +kernel) ⟨Nat.le_of_ble_eq_true rfl, Nat.le_of_ble_eq_true rfl⟩, (hta _ aw_388), (hta _ aw_4)⟩ (cx_preVQ hK hP hN (va_recv hK hP (ci := 3) (q0 := 4) rfl rfl) hD) rfl rfl hl.1 rfl (lv_room (Nat.le_of_ble_eq_true rfl)) dX4_plain_32 ⟨Nat.le_of_ble_eq_true rfl, Nat.le_of_ble_eq_true rfl⟩) hS (fun q _ h => hFc q h) hFc (fun r_3 u t9 H1 locs ht hvm hw_3 hB hz1 hk1 hS => ?_)
    obtain ⟨rd_3, lf_3, f10_3, f11_3, f12_3, pa_3⟩ := u
    obtain ⟨hP, hK1, hD1⟩ := hB
    rw [ht] at hP
    have hD := hD1.weaken (fun _ _ _ h => hFc _ h)
    clear hFc hz1 hk1 hK1 hD1 ht hvm
    generalize H1 = H at hP hS ⊢
    have hP : va_P (dC, dI) vwCl (CWl a k LP N L f1 f2 f3 f4 f5 f6 f7 f8 rd_3 f10_3 f11_3 f12_3 n f14 lf_3 wd ho ro pa_3 rs E) H := hP
    have hD : va_D A (CWl a k LP N L f1 f2 f3 f4 f5 f6 f7 f8 rd_3 f10_3 f11_3 f12_3 n f14 lf_3 wd ho ro pa_3 rs E) := hD
    obtain ⟨hrd4_3, hpa_3⟩ := fol_ok hw_3 hL1 hL4 hho hro
    refine lv_istore_n (lv' := [(3, .int r_3), (0, .ref (a 0)), (1, .int p0), (2, .int p1)]) hx hb dX4_plain_35 rfl hl (by decide) rfl (fun ls hl => ?_)
    refine lv_iload_n hx hb dX4_plain_36 rfl (lv_at hl 0 rfl) ?_
    refine lv_if_ne (tgt := 50) hx hb dX4_plain_37 (by decide) (fun c_37_3 => ?_) (fun c_37_3 => ?_)
    · refine lv_iload_n hx hb dX4_plain_50 rfl (lv_at hl 0 rfl) ?_
      refine lv_ineg hx hb dX4_plain_51 ?_
      refine vx_ret ?_
      refine W.widen (k := 1) (n := 6) (Nat.le_of_ble_eq_true rfl) (Nat.le_of_ble_eq_true rfl) ?_
      exact W.iret (v := -r_3) hx hb hr (fun t ht hW => ⟨⟨-r_3, (rd_3, lf_3, f10_3, f11_3, f12_3, pa_3), rfl, (by unfold mX4_plain; rewrite [if_neg c_4_1]; rewrite [← hw_3]; (try dsimp only); rewrite [if_neg c_37_3]; (first | done | rfl)), by rw [ht]; exact hP, va_K.moved hW.alike hK, hD⟩, hS.F ht⟩) hS.2.2 dX4_plain_52
    · refine lv_aload_n hx hb dX4_plain_40 rfl (lv_at hl 1 rfl) ?_
      refine va_get (D := (dC, dI)) (ci := 4) (v := .ref (a 4)) (C := RX4) (T := TX4) (N := 12) hx hb hta inA_X4 hown hK hP 0 rfl rfl 2 (by decide) (hta _ aw_174) (fun _ h9 => h9) rfl dX4_plain_41 ?_
      refine va_getN (D := (dC, dI)) (ci := 3) (v := .int f12_3) (C := RX3) (T := TX3) (N := 8) hx hb hta inA_X3 hown hK hP 4 rfl rfl 7 (by decide) (hN.nf 8 rfl) (fun _ h9 => h9) rfl dX4_plain_44 ?_
      refine lv_goto (tgt := 52) hx hb dX4_plain_47 (by decide) ?_
      refine vx_ret ?_
      refine W.widen (k := 1) (n := 6) (Nat.le_of_ble_eq_true rfl) (Nat.le_of_ble_eq_true rfl) ?_
      exact W.iret (v := f12_3) hx hb hr (fun t ht hW => ⟨⟨f12_3, (rd_3, lf_3, f10_3, f11_3, f12_3, pa_3), rfl, (by unfold mX4_plain; rewrite [if_neg c_4_1]; rewrite [← hw_3]; (try dsimp only); rewrite [if_pos c_37_3]; (first | done | rfl)), by rw [ht]; exact hP, va_K.moved hW.alike hK, hD⟩, hS.F ht⟩) hS.2.2 dX4_plain_52
  · exact cx_throwA hx hb hl9 hown hta aw_326 aw_48 (List.mem_of_getElem? (i := 4) rfl) hXW hXZ hS hl hml dX4_plain_7 dX4_plain_10 dX4_plain_11 dX4_plain_13 dX4_plain_16 hEx (Nat.le_of_ble_eq_true rfl) (Nat.le_of_ble_eq_true rfl) (Nat.le_of_ble_eq_true rfl) (Nat.le_of_ble_eq_true rfl) hlocks hS.2.2 (Nat.le_of_ble_eq_true rfl) (Nat.le_of_ble_eq_true rfl) (fun t ha hsz hk => ⟨1, (by unfold mX4_plain; rewrite [if_pos c_4_1]; (first | done | rfl)), ⟨rfl, hP.kept (fun k q hq => hk q.1 (hP k q hq).lt), va_K.moved ha hK, hD⟩, Nat.le_trans hS.1 hsz, fun q h1 h2 => (hk q (Nat.lt_of_lt_of_le h1 hS.1)).trans (hS.2.1 q h1 h2)⟩)
/-- PageRows.flush -/
def mX4_flush (f1 : Int32) (n : Nat) (rs : Nat → Option Nat) (E : Nat → Nat → Int32) (p0 : Int32) (p1 : Int32) : Nat ⊕ (Int32 × Nat × (Nat → Option Nat)) :=
  if p0 < 0 then
    .inl 1
  else
    if p0 ≤ (2 : Int32) then
      match mFor n (mForL E p0 f1 p1 n 0 0 rs) with
      | (r_3, n_3, rs_3) =>
        .inr (r_3, n_3, rs_3)
    else
      .inl 1
set_option maxHeartbeats 4000000 in
set_option maxRecDepth 100000 in
theorem c_X4_flush (l : Launch) (hl9 : l.stackTraces = false) (dC : Nat → ClassId) (dI : Nat → Nat → Nat) (a : Nat → Nat) (k : Nat → ClassId) (LP : List Nat) (N : Nat) (L : Nat) (f1 f2 f3 f4 f5 f6 f7 f8 : Int32) (rd : Nat) (f10 f11 f12 : Int32) (n : Nat) (f14 : Int32) (lf : Int64) (wd : Nat → Int64) (ho ro pa : Nat → Int32) (rs : Nat → Option Nat) (E : Nat → Nat → Int32)  (sz : Nat) (p0 : Int32) (p1 : Int32) (hn : n ≤ N) (hN32 : N ≤ 32) (hrow : ∀ i, i < N → rs i = some (rowA rs i) ∧ rowA rs i ∈ LP) : vx_Met l yX4_flush (wX4_flush :: AW) ({ frames := 6, cells := 1, slots := 6, locals := 91 }) (va_Pc [.ref (a 0), .int p0, .int p1] (CPrX dC dI (CWl a k LP N L f1 f2 f3 f4 f5 f6 f7 f8 rd f10 f11 f12 n f14 lf wd ho ro pa rs E) [(k 0, .long), (k 1, .int), (k 2, .int), (k 3, .object "PageRows$Entry"), (k 4, .int)] sz)) (va_Qi (fun (r : Int32) (u : Nat × (Nat → Option Nat)) => .inr (r, u) = mX4_flush f1 n rs E p0 p1) (fun (u : Nat × (Nat → Option Nat)) (t : State) => match u with | (n', rs') => va_P (dC, dI) vwCl (CWl a k LP N L f1 f2 f3 f4 f5 f6 f7 f8 rd f10 f11 f12 n' f14 lf wd ho ro pa rs' E) t.heap ∧ va_K (dC, dI) vwCl [(k 0, .long), (k 1, .int), (k 2, .int), (k 3, .object "PageRows$Entry"), (k 4, .int)] t ∧ va_D (va_A (CWl a k LP N L f1 f2 f3 f4 f5 f6 f7 f8 rd f10 f11 f12 n f14 lf wd ho ro pa rs E) sz) (CWl a k LP N L f1 f2 f3 f4 f5 f6 f7 f8 rd f10 f11 f12 n' f14 lf wd ho ro pa rs' E)) (va_A (CWl a k LP N L f1 f2 f3 f4 f5 f6 f7 f8 rd f10 f11 f12 n f14 lf wd ho ro pa rs E) sz)) (vx_X (fun u : Nat => .inl u = mX4_flush f1 n rs E p0 p1) (fun (E9 : String) (u : Nat) (t : State) => E9 = excN u ∧ va_P (dC, dI) vwCl (CWl a k LP N L f1 f2 f3 f4 f5 f6 f7 f8 rd f10 f11 f12 n f14 lf wd ho ro pa rs E) t.heap ∧ va_K (dC, dI) vwCl [(k 0, .long), (k 1, .int), (k 2, .int), (k 3, .object "PageRows$Entry"), (k 4, .int)] t ∧ va_D (va_A (CWl a k LP N L f1 f2 f3 f4 f5 f6 f7 f8 rd f10 f11 f12 n f14 lf wd ho ro pa rs E) sz) (CWl a k LP N L f1 f2 f3 f4 f5 f6 f7 f8 rd f10 f11 f12 n f14 lf wd ho ro pa rs E)) (va_A (CWl a k LP N L f1 f2 f3 f4 f5 f6 f7 f8 rd f10 f11 f12 n f14 lf wd ho ro pa rs E) sz)) 1 6 (va_A (CWl a k LP N L f1 f2 f3 f4 f5 f6 f7 f8 rd f10 f11 f12 n f14 lf wd ho ro pa rs E) sz) := by
  refine cx_ofX (cc := cX4_flush) (maxL := 3) (ret := some .int) (by decide) rfl (Nat.le_of_ble_eq_true rfl) ?_
  intro p e s m below meth c ls hx hb hr hts hown hlocks hml hEx hl hB
  have hta : ∀ w ∈ AW, w.before [.ref (a 0), .int p0, .int p1].toArray s = true := fun w h => hts w (List.mem_cons_of_mem _ h)
  have hl : lv_has ls 3 [(0, .ref (a 0)), (1, .int p0), (2, .int p1)] := hl
  have hown : s.vm.findClass RX4 = some m.cls := hown
  obtain ⟨⟨rfl, ⟨hP, hK, hN⟩, hD0⟩, hXW, hXZ⟩ := hB
  have hD := hD0.self (sz := s.heap.size)
  generalize hAe : va_A (CWl a k LP N L f1 f2 f3 f4 f5 f6 f7 f8 rd f10 f11 f12 n f14 lf wd ho ro pa rs E) s.heap.size = A at hD hXZ ⊢
  have hA : ∀ q : Nat, s.heap.size ≤ q → A q := fun q h => by rw [← hAe]; exact Or.inr h
  have hS : va_S A s.heap s.heap [] := va_S.rf
  refine lv_iload_n hx hb dX4_flush_0 rfl (lv_at hl 1 rfl) ?_
  refine lv_if_lt (tgt := 9) hx hb dX4_flush_1 (by decide) (fun c_1_0 => ?_) (fun c_1_0 => ?_)
  · exact cx_throwA hx hb hl9 hown hta aw_326 aw_48 (List.mem_of_getElem? (i := 5) rfl) hXW hXZ hS hl hml dX4_flush_9 dX4_flush_12 dX4_flush_13 dX4_flush_15 dX4_flush_18 hEx (Nat.le_of_ble_eq_true rfl) (Nat.le_of_ble_eq_true rfl) (Nat.le_of_ble_eq_true rfl) (Nat.le_of_ble_eq_true rfl) hlocks hS.2.2 (Nat.le_of_ble_eq_true rfl) (Nat.le_of_ble_eq_true rfl) (fun t ha hsz hk => ⟨1, (by unfold mX4_flush; rewrite [if_pos c_1_0]; (first | done | rfl)), ⟨rfl, hP.kept (fun k q hq => hk q.1 (hP k q hq).lt), va_K.moved ha hK, hD⟩, Nat.le_trans hS.1 hsz, fun q h1 h2 => (hk q (Nat.lt_of_lt_of_le h1 hS.1)).trans (hS.2.1 q h1 h2)⟩)
  · refine lv_iload_n hx hb dX4_flush_4 rfl (lv_at hl 1 rfl) ?_
    refine lv_iconst (v := 2) hx hb dX4_flush_5 (by decide) ?_
    refine lv_icmp_le (tgt := 19) hx hb dX4_flush_6 (by decide) (fun c_6_1 => ?_) (fun c_6_1 => ?_)
    · refine lv_aload_n hx hb dX4_flush_19 rfl (lv_at hl 0 rfl) ?_
      refine va_get (D := (dC, dI)) (ci := 4) (v := .ref (a 6)) (C := RX4) (T := TX4) (N := 12) hx hb hta inA_X4 hown hK hP 0 rfl rfl 3 (by decide) (hta _ aw_175) (fun _ h9 => h9) rfl dX4_flush_20 ?_
      refine lv_iload_n hx hb dX4_flush_23 rfl (lv_at hl 1 rfl) ?_
      refine lv_aload_n hx hb dX4_flush_24 rfl (lv_at hl 0 rfl) ?_
      refine va_get (D := (dC, dI)) (ci := 4) (v := .int f1) (C := RX4) (T := TX4) (N := 12) hx hb hta inA_X4 hown hK hP 0 rfl rfl 5 (by decide) (hta _ aw_177) (fun _ h9 => h9) rfl dX4_flush_25 ?_
      refine lv_iload_n hx hb dX4_flush_28 rfl (lv_at hl 2 rfl) ?_
      have hFc : ∀ q, va_A (CWl a k LP N L f1 f2 f3 f4 f5 f6 f7 f8 rd f10 f11 f12 n f14 lf wd ho ro pa rs E) s.heap.size q → A q := cx_free hD hS hA
      refine va_calli (va_runVN (As := [.int p0, .int f1, .int p1]) (rest := []) ⟨hx, hb, hml, hown, hta⟩ (c_X0_forget l dC dI a k LP N L f1 f2 f3 f4 f5 f6 f7 f8 rd f10 f11 f12 n f14 lf wd ho ro pa rs E s.heap.size p0 f1 p1 hn hN32 hrow) ⟨va_cnB 3 hta (gC aw_476) rfl rfl rfl (hN.nm 22 rfl) (hta _ aw_41) (by decide +kernel) ⟨Nat.le_of_ble_eq_true rfl, Nat.le_of_ble_eq_true rfl⟩, (hta _ aw_475), (hta _ aw_17)⟩ (cx_preVQ hK hP hN (va_recv hK hP (ci := 0) (q0 := 6) rfl rfl) hD) rfl rfl hl.1 rfl (lv_room (Nat.le_of_ble_eq_true rfl)) dX4_flush_29 ⟨Nat.le_of_ble_eq_true rfl, Nat.le_of_ble_eq_true rfl⟩) hS (fun q _ h => hFc q h) hFc (fun r_3 u t9 H1 locs ht hvm hw_3 hB hz1 hk1 hS => ?_)
      obtain ⟨n_3, rs_3⟩ := u
      obtain ⟨hP, hK1, hD1⟩ := hB
      rw [ht] at hP
      have hD := hD1.weaken (fun _ _ _ h => hFc _ h)
      clear hFc hz1 hk1 hK1 hD1 ht hvm
      generalize H1 = H at hP hS ⊢
      have hP : va_P (dC, dI) vwCl (CWl a k LP N L f1 f2 f3 f4 f5 f6 f7 f8 rd f10 f11 f12 n_3 f14 lf wd ho ro pa rs_3 E) H := hP
      have hD : va_D A (CWl a k LP N L f1 f2 f3 f4 f5 f6 f7 f8 rd f10 f11 f12 n_3 f14 lf wd ho ro pa rs_3 E) := hD
      refine vx_ret ?_
      refine W.widen (k := 1) (n := 6) (Nat.le_of_ble_eq_true rfl) (Nat.le_of_ble_eq_true rfl) ?_
      exact W.iret (v := r_3) hx hb hr (fun t ht hW => ⟨⟨r_3, (n_3, rs_3), rfl, (by unfold mX4_flush; rewrite [if_neg c_1_0]; rewrite [if_pos c_6_1]; rewrite [← hw_3]; (try dsimp only); (first | done | rfl)), by rw [ht]; exact hP, va_K.moved hW.alike hK, hD⟩, hS.F ht⟩) hS.2.2 dX4_flush_32
    · exact cx_throwA hx hb hl9 hown hta aw_326 aw_48 (List.mem_of_getElem? (i := 5) rfl) hXW hXZ hS hl hml dX4_flush_9 dX4_flush_12 dX4_flush_13 dX4_flush_15 dX4_flush_18 hEx (Nat.le_of_ble_eq_true rfl) (Nat.le_of_ble_eq_true rfl) (Nat.le_of_ble_eq_true rfl) (Nat.le_of_ble_eq_true rfl) hlocks hS.2.2 (Nat.le_of_ble_eq_true rfl) (Nat.le_of_ble_eq_true rfl) (fun t ha hsz hk => ⟨1, (by unfold mX4_flush; rewrite [if_neg c_1_0]; rewrite [if_neg c_6_1]; (first | done | rfl)), ⟨rfl, hP.kept (fun k q hq => hk q.1 (hP k q hq).lt), va_K.moved ha hK, hD⟩, Nat.le_trans hS.1 hsz, fun q h1 h2 => (hk q (Nat.lt_of_lt_of_le h1 hS.1)).trans (hS.2.1 q h1 h2)⟩)
end
section
/-- PageRows.walk -/
def mX4_walk (N : Nat) (L : Nat) (f1 : Int32) (f4 : Int32) (f5 : Int32) (f6 : Int32) (f7 : Int32) (f8 : Int32) (rd : Nat) (f10 : Int32) (f11 : Int32) (f12 : Int32) (n : Nat) (f14 : Int32) (lf : Int64) (wd : Nat → Int64) (ho : Nat → Int32) (ro : Nat → Int32) (pa : Nat → Int32) (rs : Nat → Option Nat) (E : Nat → Nat → Int32) (p0 : Int32) (p1 : Int32) : Nat ⊕ (Int32 × Int32 × Int32 × Int32 × Int32 × Int32 × Int32 × Nat × Int32 × Int32 × Int32 × Nat × Int32 × Int64 × (Nat → Int64) × (Nat → Int32) × (Nat → Option Nat) × (Nat → Nat → Int32)) :=
  if (mX4_isKind p1) = 0 then
    .inl 1
  else
    match (mFind rs E f1 p0 n 0) with
    | none =>
      match mX4_translateByTables N L f1 f4 f6 f7 f8 f10 n f14 lf wd ho ro pa rs E p0 p1 with
      | (r_7, f2_7, f3_7, f4_7, f6_7, f7_7, rd_7, f10_7, f11_7, f12_7, n_7, f14_7, lf_7, wd_7, pa_7, rs_7, E_7) =>
        .inr (r_7, f2_7, f3_7, f4_7, f5, f6_7, f7_7, rd_7, f10_7, f11_7, f12_7, n_7, f14_7, lf_7, wd_7, pa_7, rs_7, E_7)
    | some jf_5 =>
      if (nI jf_5) = (-1 : Int32) then
        match mX4_translateByTables N L f1 f4 f6 f7 f8 f10 n f14 lf wd ho ro pa rs E p0 p1 with
        | (r_9, f2_9, f3_9, f4_9, f6_9, f7_9, rd_9, f10_9, f11_9, f12_9, n_9, f14_9, lf_9, wd_9, pa_9, rs_9, E_9) =>
          .inr (r_9, f2_9, f3_9, f4_9, f5, f6_9, f7_9, rd_9, f10_9, f11_9, f12_9, n_9, f14_9, lf_9, wd_9, pa_9, rs_9, E_9)
      else
        if (mX4_needsChangedMark E (rowA rs jf_5) p1) = 0 then
          match mX4_translateByEntry L f5 f7 f8 ho rs E jf_5 p0 p1 with
          | (r_12, f2_12, f3_12, f5_12, f7_12, rs_12) =>
            .inr (r_12, f2_12, f3_12, f4, f5_12, f6, f7_12, rd, f10, f11, f12, n, f14, lf, wd, pa, rs_12, E)
        else
          match mX4_translateByTables N L f1 f4 f6 f7 f8 f10 n f14 lf wd ho ro pa rs E p0 p1 with
          | (r_13, f2_13, f3_13, f4_13, f6_13, f7_13, rd_13, f10_13, f11_13, f12_13, n_13, f14_13, lf_13, wd_13, pa_13, rs_13, E_13) =>
            .inr (r_13, f2_13, f3_13, f4_13, f5, f6_13, f7_13, rd_13, f10_13, f11_13, f12_13, n_13, f14_13, lf_13, wd_13, pa_13, rs_13, E_13)
set_option maxHeartbeats 4000000 in
set_option maxRecDepth 100000 in
theorem c_X4_walk (l : Launch) (hl9 : l.stackTraces = false) (dC : Nat → ClassId) (dI : Nat → Nat → Nat) (a : Nat → Nat) (k : Nat → ClassId) (LP : List Nat) (N : Nat) (L : Nat) (f1 f2 f3 f4 f5 f6 f7 f8 : Int32) (rd : Nat) (f10 f11 f12 : Int32) (n : Nat) (f14 : Int32) (lf : Int64) (wd : Nat → Int64) (ho ro pa : Nat → Int32) (rs : Nat → Option Nat) (E : Nat → Nat → Int32)  (sz : Nat) (p0 : Int32) (p1 : Int32) (hL1 : 1 ≤ L) (hL4 : L ≤ 4) (hho : HOK ho) (hf1 : vp_in f1 4) (hro : ¬ ro f1.toNatClampNeg < 0) (hn : n ≤ N) (h0N : 0 < N) (hN32 : N ≤ 32) (hrow : ∀ i, i < N → rs i = some (rowA rs i) ∧ rowA rs i ∈ LP) : vx_Met l yX4_walk (wX4_walk :: AW) ({ frames := 6, cells := 1, slots := 6, locals := 114 }) (va_Pc [.ref (a 0), .int p0, .int p1] (CPrX dC dI (CWl a k LP N L f1 f2 f3 f4 f5 f6 f7 f8 rd f10 f11 f12 n f14 lf wd ho ro pa rs E) [(k 0, .long), (k 1, .int), (k 2, .int), (k 3, .object "PageRows$Entry"), (k 4, .int)] sz)) (va_Qi (fun (r : Int32) (u : Int32 × Int32 × Int32 × Int32 × Int32 × Int32 × Nat × Int32 × Int32 × Int32 × Nat × Int32 × Int64 × (Nat → Int64) × (Nat → Int32) × (Nat → Option Nat) × (Nat → Nat → Int32)) => .inr (r, u) = mX4_walk N L f1 f4 f5 f6 f7 f8 rd f10 f11 f12 n f14 lf wd ho ro pa rs E p0 p1) (fun (u : Int32 × Int32 × Int32 × Int32 × Int32 × Int32 × Nat × Int32 × Int32 × Int32 × Nat × Int32 × Int64 × (Nat → Int64) × (Nat → Int32) × (Nat → Option Nat) × (Nat → Nat → Int32)) (t : State) => match u with | (f2', f3', f4', f5', f6', f7', rd', f10', f11', f12', n', f14', lf', wd', pa', rs', E') => va_P (dC, dI) vwCl (CWl a k LP N L f1 f2' f3' f4' f5' f6' f7' f8 rd' f10' f11' f12' n' f14' lf' wd' ho ro pa' rs' E') t.heap ∧ va_K (dC, dI) vwCl [(k 0, .long), (k 1, .int), (k 2, .int), (k 3, .object "PageRows$Entry"), (k 4, .int)] t ∧ va_D (va_A (CWl a k LP N L f1 f2 f3 f4 f5 f6 f7 f8 rd f10 f11 f12 n f14 lf wd ho ro pa rs E) sz) (CWl a k LP N L f1 f2' f3' f4' f5' f6' f7' f8 rd' f10' f11' f12' n' f14' lf' wd' ho ro pa' rs' E')) (va_A (CWl a k LP N L f1 f2 f3 f4 f5 f6 f7 f8 rd f10 f11 f12 n f14 lf wd ho ro pa rs E) sz)) (vx_X (fun u : Nat => .inl u = mX4_walk N L f1 f4 f5 f6 f7 f8 rd f10 f11 f12 n f14 lf wd ho ro pa rs E p0 p1) (fun (E9 : String) (u : Nat) (t : State) => E9 = excN u ∧ va_P (dC, dI) vwCl (CWl a k LP N L f1 f2 f3 f4 f5 f6 f7 f8 rd f10 f11 f12 n f14 lf wd ho ro pa rs E) t.heap ∧ va_K (dC, dI) vwCl [(k 0, .long), (k 1, .int), (k 2, .int), (k 3, .object "PageRows$Entry"), (k 4, .int)] t ∧ va_D (va_A (CWl a k LP N L f1 f2 f3 f4 f5 f6 f7 f8 rd f10 f11 f12 n f14 lf wd ho ro pa rs E) sz) (CWl a k LP N L f1 f2 f3 f4 f5 f6 f7 f8 rd f10 f11 f12 n f14 lf wd ho ro pa rs E)) (va_A (CWl a k LP N L f1 f2 f3 f4 f5 f6 f7 f8 rd f10 f11 f12 n f14 lf wd ho ro pa rs E) sz)) 1 6 (va_A (CWl a k LP N L f1 f2 f3 f4 f5 f6 f7 f8 rd f10 f11 f12 n f14 lf wd ho ro pa rs E) sz) := by
  refine cx_ofX (cc := cX4_walk) (maxL := 4) (ret := some .int) (by decide) rfl (Nat.le_of_ble_eq_true rfl) ?_
  intro p e s m below meth c ls hx hb hr hts hown hlocks hml hEx hl hB
  have hta : ∀ w ∈ AW, w.before [.ref (a 0), .int p0, .int p1].toArray s = true := fun w h => hts w (List.mem_cons_of_mem _ h)
  have hl : lv_has ls 4 [(0, .ref (a 0)), (1, .int p0), (2, .int p1)] := hl
  have hown : s.vm.findClass RX4 = some m.cls := hown
  obtain ⟨⟨rfl, ⟨hP, hK, hN⟩, hD0⟩, hXW, hXZ⟩ := hB
  have hD := hD0.self (sz := s.heap.size)
  generalize hAe : va_A (CWl a k LP N L f1 f2 f3 f4 f5 f6 f7 f8 rd f10 f11 f12 n f14 lf wd ho ro pa rs E) s.heap.size = A at hD hXZ ⊢
  have hA : ∀ q : Nat, s.heap.size ≤ q → A q := fun q h => by rw [← hAe]; exact Or.inr h
  have hS : va_S A s.heap s.heap [] := va_S.rf
  refine lv_iload_n hx hb dX4_walk_0 rfl (lv_at hl 2 rfl) ?_
  refine cx_callSi (va_runS (As := [.int p1]) (rest := []) ⟨hx, hb, hml, hown, hta⟩ (c_X4_isKind l p1) (va_cwS 1 hta (gS aw_358 aw_359 aw_38 aw_360) rfl rfl rfl (by decide +kernel) ⟨Nat.le_of_ble_eq_true rfl, Nat.le_of_ble_eq_true rfl⟩) cx_pre0 rfl rfl hl.1 rfl (lv_room (Nat.le_of_ble_eq_true rfl)) dX4_walk_1 ⟨Nat.le_of_ble_eq_true rfl, Nat.le_of_ble_eq_true rfl⟩) (fun r hw_1 => ?_)
  subst hw_1
  refine lv_if_ne (tgt := 17) hx hb dX4_walk_4 (by decide) (fun c_4_1 => ?_) (fun c_4_1 => ?_)
  · refine lv_aload_n hx hb dX4_walk_17 rfl (lv_at hl 0 rfl) ?_
    refine va_get (D := (dC, dI)) (ci := 4) (v := .ref (a 6)) (C := RX4) (T := TX4) (N := 12) hx hb hta inA_X4 hown hK hP 0 rfl rfl 3 (by decide) (hta _ aw_175) (fun _ h9 => h9) rfl dX4_walk_18 ?_
    refine lv_aload_n hx hb dX4_walk_21 rfl (lv_at hl 0 rfl) ?_
    refine va_get (D := (dC, dI)) (ci := 4) (v := .int f1) (C := RX4) (T := TX4) (N := 12) hx hb hta inA_X4 hown hK hP 0 rfl rfl 5 (by decide) (hta _ aw_177) (fun _ h9 => h9) rfl dX4_walk_22 ?_
    refine lv_iload_n hx hb dX4_walk_25 rfl (lv_at hl 1 rfl) ?_
    refine cx_callSi (va_runVN (As := [.int f1, .int p0]) (rest := []) ⟨hx, hb, hml, hown, hta⟩ (c_X0_find l dC dI a k LP N L f1 f2 f3 f4 f5 f6 f7 f8 rd f10 f11 f12 n f14 lf wd ho ro pa rs E f1 p0 hn hN32 hrow) ⟨va_cnB 2 hta (gC aw_365) rfl rfl rfl (hN.nm 4 rfl) (hta _ aw_41) (by decide +kernel) ⟨Nat.le_of_ble_eq_true rfl, Nat.le_of_ble_eq_true rfl⟩, (hta _ aw_364), (hta _ aw_1)⟩ (cx_preVS hK hP hN (va_recv hK hP (ci := 0) (q0 := 6) rfl rfl)) rfl rfl hl.1 rfl (lv_room (Nat.le_of_ble_eq_true rfl)) dX4_walk_26 ⟨Nat.le_of_ble_eq_true rfl, Nat.le_of_ble_eq_true rfl⟩) (fun r hw_3 => ?_)
    subst hw_3
    rcases hfo_4 : (mFind rs E f1 p0 n 0) with _ | jf_5
    · dsimp only [optI]
      refine lv_istore_n (lv' := [(3, .int (-1 : Int32)), (0, .ref (a 0)), (1, .int p0), (2, .int p1)]) hx hb dX4_walk_29 rfl hl (by decide) rfl (fun ls hl => ?_)
      refine lv_iload_n hx hb dX4_walk_30 rfl (lv_at hl 0 rfl) ?_
      refine lv_iconst (v := (-1)) hx hb dX4_walk_31 (by decide) ?_
      refine lv_icmp_eq (tgt := 51) hx hb dX4_walk_32 (by decide) (fun c_32_5 => ?_) (fun c_32_5 => ?_)
      · refine lv_aload_n hx hb dX4_walk_51 rfl (lv_at hl 1 rfl) ?_
        refine lv_iload_n hx hb dX4_walk_52 rfl (lv_at hl 2 rfl) ?_
        refine lv_iload_n hx hb dX4_walk_53 rfl (lv_at hl 3 rfl) ?_
        have hFc : ∀ q, va_A (CWl a k LP N L f1 f2 f3 f4 f5 f6 f7 f8 rd f10 f11 f12 n f14 lf wd ho ro pa rs E) s.heap.size q → A q := cx_free hD hS hA
        refine va_calli (va_runV (As := [.int p0, .int p1]) (rest := []) ⟨hx, hb, hml, hown, hta⟩ (c_X4_translateByTables l dC dI a k LP N L f1 f2 f3 f4 f5 f6 f7 f8 rd f10 f11 f12 n f14 lf wd ho ro pa rs E s.heap.size p0 p1 hL1 hL4 hho hf1 hro hn h0N hN32 hrow) (cwV 2 hta (gV aw_382 aw_384 aw_3 aw_38 aw_385) rfl rfl rfl (by decide +kernel) ⟨Nat.le_of_ble_eq_true rfl, Nat.le_of_ble_eq_true rfl⟩) (cx_preVQ hK hP hN (va_recv hK hP (ci := 4) (q0 := 0) rfl rfl) hD) rfl rfl hl.1 rfl (lv_room (Nat.le_of_ble_eq_true rfl)) dX4_walk_54 ⟨Nat.le_of_ble_eq_true rfl, Nat.le_of_ble_eq_true rfl⟩) hS (fun q _ h => hFc q h) hFc (fun r_7 u t9 H1 locs ht hvm hw_7 hB hz1 hk1 hS => ?_)
        obtain ⟨f2_7, f3_7, f4_7, f6_7, f7_7, rd_7, f10_7, f11_7, f12_7, n_7, f14_7, lf_7, wd_7, pa_7, rs_7, E_7⟩ := u
        obtain ⟨hP, hK1, hD1⟩ := hB
        rw [ht] at hP
        have hD := hD1.weaken (fun _ _ _ h => hFc _ h)
        clear hFc hz1 hk1 hK1 hD1 ht hvm
        generalize H1 = H at hP hS ⊢
        have hP : va_P (dC, dI) vwCl (CWl a k LP N L f1 f2_7 f3_7 f4_7 f5 f6_7 f7_7 f8 rd_7 f10_7 f11_7 f12_7 n_7 f14_7 lf_7 wd_7 ho ro pa_7 rs_7 E_7) H := hP
        have hD : va_D A (CWl a k LP N L f1 f2_7 f3_7 f4_7 f5 f6_7 f7_7 f8 rd_7 f10_7 f11_7 f12_7 n_7 f14_7 lf_7 wd_7 ho ro pa_7 rs_7 E_7) := hD
        refine vx_ret ?_
        refine W.widen (k := 1) (n := 6) (Nat.le_of_ble_eq_true rfl) (Nat.le_of_ble_eq_true rfl) ?_
        exact W.iret (v := r_7) hx hb hr (fun t ht hW => ⟨⟨r_7, (f2_7, f3_7, f4_7, f5, f6_7, f7_7, rd_7, f10_7, f11_7, f12_7, n_7, f14_7, lf_7, wd_7, pa_7, rs_7, E_7), rfl, (by unfold mX4_walk; rewrite [if_neg c_4_1]; rewrite [hfo_4]; (try dsimp only); rewrite [← hw_7]; (try dsimp only); (first | done | rfl)), by rw [ht]; exact hP, va_K.moved hW.alike hK, hD⟩, hS.F ht⟩) hS.2.2 dX4_walk_57
      · exact absurd (by decide) c_32_5
    · dsimp only [optI]
      have hlt_jf_5 : jf_5 < n := by have := mFind_lt _ _ _ _ _ _ _ hfo_4; omega
      refine lv_istore_n (lv' := [(3, .int (nI jf_5)), (0, .ref (a 0)), (1, .int p0), (2, .int p1)]) hx hb dX4_walk_29 rfl hl (by decide) rfl (fun ls hl => ?_)
      refine lv_iload_n hx hb dX4_walk_30 rfl (lv_at hl 0 rfl) ?_
      refine lv_iconst (v := (-1)) hx hb dX4_walk_31 (by decide) ?_
      refine lv_icmp_eq (tgt := 51) hx hb dX4_walk_32 (by decide) (fun c_32_7 => ?_) (fun c_32_7 => ?_)
      · refine lv_aload_n hx hb dX4_walk_51 rfl (lv_at hl 1 rfl) ?_
        refine lv_iload_n hx hb dX4_walk_52 rfl (lv_at hl 2 rfl) ?_
        refine lv_iload_n hx hb dX4_walk_53 rfl (lv_at hl 3 rfl) ?_
        have hFc : ∀ q, va_A (CWl a k LP N L f1 f2 f3 f4 f5 f6 f7 f8 rd f10 f11 f12 n f14 lf wd ho ro pa rs E) s.heap.size q → A q := cx_free hD hS hA
        refine va_calli (va_runV (As := [.int p0, .int p1]) (rest := []) ⟨hx, hb, hml, hown, hta⟩ (c_X4_translateByTables l dC dI a k LP N L f1 f2 f3 f4 f5 f6 f7 f8 rd f10 f11 f12 n f14 lf wd ho ro pa rs E s.heap.size p0 p1 hL1 hL4 hho hf1 hro hn h0N hN32 hrow) (cwV 2 hta (gV aw_382 aw_384 aw_3 aw_38 aw_385) rfl rfl rfl (by decide +kernel) ⟨Nat.le_of_ble_eq_true rfl, Nat.le_of_ble_eq_true rfl⟩) (cx_preVQ hK hP hN (va_recv hK hP (ci := 4) (q0 := 0) rfl rfl) hD) rfl rfl hl.1 rfl (lv_room (Nat.le_of_ble_eq_true rfl)) dX4_walk_54 ⟨Nat.le_of_ble_eq_true rfl, Nat.le_of_ble_eq_true rfl⟩) hS (fun q _ h => hFc q h) hFc (fun r_9 u t9 H1 locs ht hvm hw_9 hB hz1 hk1 hS => ?_)
        obtain ⟨f2_9, f3_9, f4_9, f6_9, f7_9, rd_9, f10_9, f11_9, f12_9, n_9, f14_9, lf_9, wd_9, pa_9, rs_9, E_9⟩ := u
        obtain ⟨hP, hK1, hD1⟩ := hB
        rw [ht] at hP
        have hD := hD1.weaken (fun _ _ _ h => hFc _ h)
        clear hFc hz1 hk1 hK1 hD1 ht hvm
        generalize H1 = H at hP hS ⊢
        have hP : va_P (dC, dI) vwCl (CWl a k LP N L f1 f2_9 f3_9 f4_9 f5 f6_9 f7_9 f8 rd_9 f10_9 f11_9 f12_9 n_9 f14_9 lf_9 wd_9 ho ro pa_9 rs_9 E_9) H := hP
        have hD : va_D A (CWl a k LP N L f1 f2_9 f3_9 f4_9 f5 f6_9 f7_9 f8 rd_9 f10_9 f11_9 f12_9 n_9 f14_9 lf_9 wd_9 ho ro pa_9 rs_9 E_9) := hD
        refine vx_ret ?_
        refine W.widen (k := 1) (n := 6) (Nat.le_of_ble_eq_true rfl) (Nat.le_of_ble_eq_true rfl) ?_
        exact W.iret (v := r_9) hx hb hr (fun t ht hW => ⟨⟨r_9, (f2_9, f3_9, f4_9, f5, f6_9, f7_9, rd_9, f10_9, f11_9, f12_9, n_9, f14_9, lf_9, wd_9, pa_9, rs_9, E_9), rfl, (by unfold mX4_walk; rewrite [if_neg c_4_1]; rewrite [hfo_4]; (try dsimp only); rewrite [if_pos c_32_7]; rewrite [← hw_9]; (try dsimp only); (first | done | rfl)), by rw [ht]; exact hP, va_K.moved hW.alike hK, hD⟩, hS.F ht⟩) hS.2.2 dX4_walk_57
      · refine lv_aload_n hx hb dX4_walk_35 rfl (lv_at hl 1 rfl) ?_
        refine va_get (D := (dC, dI)) (ci := 4) (v := .ref (a 6)) (C := RX4) (T := TX4) (N := 12) hx hb hta inA_X4 hown hK hP 0 rfl rfl 3 (by decide) (hta _ aw_175) (fun _ h9 => h9) rfl dX4_walk_36 ?_
        refine va_getN (D := (dC, dI)) (ci := 0) (v := .ref (a 7)) (C := RX0) (T := TX0) (N := 3) hx hb hta inA_X0 hown hK hP 6 rfl rfl 0 (by decide) (hN.nf 21 rfl) (fun _ h9 => h9) rfl dX4_walk_39 ?_
        refine lv_iload_n hx hb dX4_walk_42 rfl (lv_at hl 0 rfl) ?_
        refine cx_aald hx hb hK hP 7 3 rfl rfl (vp_in_nI (by omega) (by omega)) (by rw [nI_clamp (by omega)]; exact (hrow jf_5 (by omega)).1) dX4_walk_43 ?_
        refine lv_iload_n hx hb dX4_walk_44 rfl (lv_at hl 3 rfl) ?_
        refine cx_callSi (va_runS (As := [.ref (rowA rs jf_5), .int p1]) (rest := []) ⟨hx, hb, hml, hown, hta⟩ (c_X4_needsChangedMark l dC dI a k LP N L f1 f2 f3 f4 f5 f6 f7 f8 rd f10 f11 f12 n f14 lf wd ho ro pa rs E (rowA rs jf_5) ((hrow jf_5 (by omega)).2) p1) (va_cwS 2 hta (gS aw_373 aw_374 aw_38 aw_375) rfl rfl rfl (by decide +kernel) ⟨Nat.le_of_ble_eq_true rfl, Nat.le_of_ble_eq_true rfl⟩) (cx_preSS hK hP hN) rfl rfl hl.1 rfl (lv_room (Nat.le_of_ble_eq_true rfl)) dX4_walk_45 ⟨Nat.le_of_ble_eq_true rfl, Nat.le_of_ble_eq_true rfl⟩) (fun r hw_10 => ?_)
        subst hw_10
        refine lv_if_eq (tgt := 58) hx hb dX4_walk_48 (by decide) (fun c_48_10 => ?_) (fun c_48_10 => ?_)
        · refine lv_aload_n hx hb dX4_walk_58 rfl (lv_at hl 1 rfl) ?_
          refine lv_iload_n hx hb dX4_walk_59 rfl (lv_at hl 0 rfl) ?_
          refine lv_iload_n hx hb dX4_walk_60 rfl (lv_at hl 2 rfl) ?_
          refine lv_iload_n hx hb dX4_walk_61 rfl (lv_at hl 3 rfl) ?_
          have hFc : ∀ q, va_A (CWl a k LP N L f1 f2 f3 f4 f5 f6 f7 f8 rd f10 f11 f12 n f14 lf wd ho ro pa rs E) s.heap.size q → A q := cx_free hD hS hA
          refine va_calli (va_runV (As := [.int (nI jf_5), .int p0, .int p1]) (rest := []) ⟨hx, hb, hml, hown, hta⟩ (c_X4_translateByEntry l dC dI a k LP N L f1 f2 f3 f4 f5 f6 f7 f8 rd f10 f11 f12 n f14 lf wd ho ro pa rs E s.heap.size jf_5 p0 p1 (by omega) hn hN32 hrow) (cwV 3 hta (gV aw_452 aw_454 aw_16 aw_38 aw_455) rfl rfl rfl (by decide +kernel) ⟨Nat.le_of_ble_eq_true rfl, Nat.le_of_ble_eq_true rfl⟩) (cx_preVQ hK hP hN (va_recv hK hP (ci := 4) (q0 := 0) rfl rfl) hD) rfl rfl hl.1 rfl (lv_room (Nat.le_of_ble_eq_true rfl)) dX4_walk_62 ⟨Nat.le_of_ble_eq_true rfl, Nat.le_of_ble_eq_true rfl⟩) hS (fun q _ h => hFc q h) hFc (fun r_12 u t9 H1 locs ht hvm hw_12 hB hz1 hk1 hS => ?_)
          obtain ⟨f2_12, f3_12, f5_12, f7_12, rs_12⟩ := u
          obtain ⟨hP, hK1, hD1⟩ := hB
          rw [ht] at hP
          have hD := hD1.weaken (fun _ _ _ h => hFc _ h)
          clear hFc hz1 hk1 hK1 hD1 ht hvm
          generalize H1 = H at hP hS ⊢
          have hP : va_P (dC, dI) vwCl (CWl a k LP N L f1 f2_12 f3_12 f4 f5_12 f6 f7_12 f8 rd f10 f11 f12 n f14 lf wd ho ro pa rs_12 E) H := hP
          have hD : va_D A (CWl a k LP N L f1 f2_12 f3_12 f4 f5_12 f6 f7_12 f8 rd f10 f11 f12 n f14 lf wd ho ro pa rs_12 E) := hD
          refine vx_ret ?_
          refine W.widen (k := 1) (n := 6) (Nat.le_of_ble_eq_true rfl) (Nat.le_of_ble_eq_true rfl) ?_
          exact W.iret (v := r_12) hx hb hr (fun t ht hW => ⟨⟨r_12, (f2_12, f3_12, f4, f5_12, f6, f7_12, rd, f10, f11, f12, n, f14, lf, wd, pa, rs_12, E), rfl, (by unfold mX4_walk; rewrite [if_neg c_4_1]; rewrite [hfo_4]; (try dsimp only); rewrite [if_neg c_32_7]; rewrite [if_pos c_48_10]; rewrite [← hw_12]; (try dsimp only); (first | done | rfl)), by rw [ht]; exact hP, va_K.moved hW.alike hK, hD⟩, hS.F ht⟩) hS.2.2 dX4_walk_65
        · refine lv_aload_n hx hb dX4_walk_51 rfl (lv_at hl 1 rfl) ?_
          refine lv_iload_n hx hb dX4_walk_52 rfl (lv_at hl 2 rfl) ?_
          refine lv_iload_n hx hb dX4_walk_53 rfl (lv_at hl 3 rfl) ?_
          have hFc : ∀ q, va_A (CWl a k LP N L f1 f2 f3 f4 f5 f6 f7 f8 rd f10 f11 f12 n f14 lf wd ho ro pa rs E) s.heap.size q → A q := cx_free hD hS hA
          refine va_calli (va_runV (As := [.int p0, .int p1]) (rest := []) ⟨hx, hb, hml, hown, hta⟩ (c_X4_translateByTables l dC dI a k LP N L f1 f2 f3 f4 f5 f6 f7 f8 rd f10 f11 f12 n f14 lf wd ho ro pa rs E s.heap.size p0 p1 hL1 hL4 hho hf1 hro hn h0N hN32 hrow) (cwV 2 hta (gV aw_382 aw_384 aw_3 aw_38 aw_385) rfl rfl rfl (by decide +kernel) ⟨Nat.le_of_ble_eq_true rfl, Nat.le_of_ble_eq_true rfl⟩) (cx_preVQ hK hP hN (va_recv hK hP (ci := 4) (q0 := 0) rfl rfl) hD) rfl rfl hl.1 rfl (lv_room (Nat.le_of_ble_eq_true rfl)) dX4_walk_54 ⟨Nat.le_of_ble_eq_true rfl, Nat.le_of_ble_eq_true rfl⟩) hS (fun q _ h => hFc q h) hFc (fun r_13 u t9 H1 locs ht hvm hw_13 hB hz1 hk1 hS => ?_)
          obtain ⟨f2_13, f3_13, f4_13, f6_13, f7_13, rd_13, f10_13, f11_13, f12_13, n_13, f14_13, lf_13, wd_13, pa_13, rs_13, E_13⟩ := u
          obtain ⟨hP, hK1, hD1⟩ := hB
          rw [ht] at hP
          have hD := hD1.weaken (fun _ _ _ h => hFc _ h)
          clear hFc hz1 hk1 hK1 hD1 ht hvm
          generalize H1 = H at hP hS ⊢
          have hP : va_P (dC, dI) vwCl (CWl a k LP N L f1 f2_13 f3_13 f4_13 f5 f6_13 f7_13 f8 rd_13 f10_13 f11_13 f12_13 n_13 f14_13 lf_13 wd_13 ho ro pa_13 rs_13 E_13) H := hP
          have hD : va_D A (CWl a k LP N L f1 f2_13 f3_13 f4_13 f5 f6_13 f7_13 f8 rd_13 f10_13 f11_13 f12_13 n_13 f14_13 lf_13 wd_13 ho ro pa_13 rs_13 E_13) := hD
          refine vx_ret ?_
          refine W.widen (k := 1) (n := 6) (Nat.le_of_ble_eq_true rfl) (Nat.le_of_ble_eq_true rfl) ?_
          exact W.iret (v := r_13) hx hb hr (fun t ht hW => ⟨⟨r_13, (f2_13, f3_13, f4_13, f5, f6_13, f7_13, rd_13, f10_13, f11_13, f12_13, n_13, f14_13, lf_13, wd_13, pa_13, rs_13, E_13), rfl, (by unfold mX4_walk; rewrite [if_neg c_4_1]; rewrite [hfo_4]; (try dsimp only); rewrite [if_neg c_32_7]; rewrite [if_neg c_48_10]; rewrite [← hw_13]; (try dsimp only); (first | done | rfl)), by rw [ht]; exact hP, va_K.moved hW.alike hK, hD⟩, hS.F ht⟩) hS.2.2 dX4_walk_57
  · exact cx_throwA hx hb hl9 hown hta aw_326 aw_48 (List.mem_of_getElem? (i := 4) rfl) hXW hXZ hS hl hml dX4_walk_7 dX4_walk_10 dX4_walk_11 dX4_walk_13 dX4_walk_16 hEx (Nat.le_of_ble_eq_true rfl) (Nat.le_of_ble_eq_true rfl) (Nat.le_of_ble_eq_true rfl) (Nat.le_of_ble_eq_true rfl) hlocks hS.2.2 (Nat.le_of_ble_eq_true rfl) (Nat.le_of_ble_eq_true rfl) (fun t ha hsz hk => ⟨1, (by unfold mX4_walk; rewrite [if_pos c_4_1]; (first | done | rfl)), ⟨rfl, hP.kept (fun k q hq => hk q.1 (hP k q hq).lt), va_K.moved ha hK, hD⟩, Nat.le_trans hS.1 hsz, fun q h1 h2 => (hk q (Nat.lt_of_lt_of_le h1 hS.1)).trans (hS.2.1 q h1 h2)⟩)
theorem cx_clt {x : Int32} {n : Nat} (h0 : ¬ x < 0) (h1 : x < nI n) (hn : n < 2 ^ 31) : x.toNatClampNeg < n := by
  obtain ⟨j, hj, rfl⟩ := vp_in_of (cx_inl (n := n) h0 h1 rfl hn) hn
  rw [nI_clamp (by omega)]
  exact hj
theorem cx_inN {x : Int32} {n N : Nat} (h0 : ¬ x < 0) (h1 : x < nI n) (hn : n ≤ N) (hN : N < 2 ^ 31) : vp_in x N := by
  obtain ⟨j, hj, rfl⟩ := vp_in_of (cx_inl (n := n) h0 h1 rfl (by omega)) (by omega)
  exact vp_in_nI (by omega) hN
/-- PageRows.kept -/
def mX4_kept (n : Nat) (rs : Nat → Option Nat) (E : Nat → Nat → Int32) (p0 : Int32) (p1 : Int32) : Nat ⊕ Int32 :=
  if p0 < 0 then
    .inl 0
  else
    if p0 < (nI n) then
      if p1 < 0 then
        .inl 0
      else
        if p1 < (6 : Int32) then
          .inr (mX1_part E (rowA rs p0.toNatClampNeg) p1)
        else
          .inl 0
    else
      .inl 0
set_option maxHeartbeats 4000000 in
set_option maxRecDepth 100000 in
theorem c_X4_kept (l : Launch) (hl9 : l.stackTraces = false) (dC : Nat → ClassId) (dI : Nat → Nat → Nat) (a : Nat → Nat) (k : Nat → ClassId) (LP : List Nat) (N : Nat) (L : Nat) (f1 f2 f3 f4 f5 f6 f7 f8 : Int32) (rd : Nat) (f10 f11 f12 : Int32) (n : Nat) (f14 : Int32) (lf : Int64) (wd : Nat → Int64) (ho ro pa : Nat → Int32) (rs : Nat → Option Nat) (E : Nat → Nat → Int32)  (sz : Nat) (p0 : Int32) (p1 : Int32) (hn : n ≤ N) (hN32 : N ≤ 32) (hrow : ∀ i, i < N → rs i = some (rowA rs i) ∧ rowA rs i ∈ LP) : vx_Met l yX4_kept (wX4_kept :: AW) ({ frames := 6, cells := 1, slots := 6, locals := 91 }) (va_Pc [.ref (a 0), .int p0, .int p1] (CPrX dC dI (CWl a k LP N L f1 f2 f3 f4 f5 f6 f7 f8 rd f10 f11 f12 n f14 lf wd ho ro pa rs E) [(k 0, .long), (k 1, .int), (k 2, .int), (k 3, .object "PageRows$Entry"), (k 4, .int)] sz)) (va_Qi (fun (r : Int32) (u : Unit) => .inr r = mX4_kept n rs E p0 p1) (fun (u : Unit) (t : State) => match u with | _ => va_P (dC, dI) vwCl (CWl a k LP N L f1 f2 f3 f4 f5 f6 f7 f8 rd f10 f11 f12 n f14 lf wd ho ro pa rs E) t.heap ∧ va_K (dC, dI) vwCl [(k 0, .long), (k 1, .int), (k 2, .int), (k 3, .object "PageRows$Entry"), (k 4, .int)] t ∧ va_D (va_A (CWl a k LP N L f1 f2 f3 f4 f5 f6 f7 f8 rd f10 f11 f12 n f14 lf wd ho ro pa rs E) sz) (CWl a k LP N L f1 f2 f3 f4 f5 f6 f7 f8 rd f10 f11 f12 n f14 lf wd ho ro pa rs E)) (va_A (CWl a k LP N L f1 f2 f3 f4 f5 f6 f7 f8 rd f10 f11 f12 n f14 lf wd ho ro pa rs E) sz)) (vx_X (fun u : Nat => .inl u = mX4_kept n rs E p0 p1) (fun (E9 : String) (u : Nat) (t : State) => E9 = excN u ∧ va_P (dC, dI) vwCl (CWl a k LP N L f1 f2 f3 f4 f5 f6 f7 f8 rd f10 f11 f12 n f14 lf wd ho ro pa rs E) t.heap ∧ va_K (dC, dI) vwCl [(k 0, .long), (k 1, .int), (k 2, .int), (k 3, .object "PageRows$Entry"), (k 4, .int)] t ∧ va_D (va_A (CWl a k LP N L f1 f2 f3 f4 f5 f6 f7 f8 rd f10 f11 f12 n f14 lf wd ho ro pa rs E) sz) (CWl a k LP N L f1 f2 f3 f4 f5 f6 f7 f8 rd f10 f11 f12 n f14 lf wd ho ro pa rs E)) (va_A (CWl a k LP N L f1 f2 f3 f4 f5 f6 f7 f8 rd f10 f11 f12 n f14 lf wd ho ro pa rs E) sz)) 1 6 (va_A (CWl a k LP N L f1 f2 f3 f4 f5 f6 f7 f8 rd f10 f11 f12 n f14 lf wd ho ro pa rs E) sz) := by
  refine cx_ofX (cc := cX4_kept) (maxL := 3) (ret := some .int) (by decide) rfl (Nat.le_of_ble_eq_true rfl) ?_
  intro p e s m below meth c ls hx hb hr hts hown hlocks hml hEx hl hB
  have hta : ∀ w ∈ AW, w.before [.ref (a 0), .int p0, .int p1].toArray s = true := fun w h => hts w (List.mem_cons_of_mem _ h)
  have hl : lv_has ls 3 [(0, .ref (a 0)), (1, .int p0), (2, .int p1)] := hl
  have hown : s.vm.findClass RX4 = some m.cls := hown
  obtain ⟨⟨rfl, ⟨hP, hK, hN⟩, hD0⟩, hXW, hXZ⟩ := hB
  have hD := hD0.self (sz := s.heap.size)
  generalize hAe : va_A (CWl a k LP N L f1 f2 f3 f4 f5 f6 f7 f8 rd f10 f11 f12 n f14 lf wd ho ro pa rs E) s.heap.size = A at hD hXZ ⊢
  have hA : ∀ q : Nat, s.heap.size ≤ q → A q := fun q h => by rw [← hAe]; exact Or.inr h
  have hS : va_S A s.heap s.heap [] := va_S.rf
  refine lv_iload_n hx hb dX4_kept_0 rfl (lv_at hl 1 rfl) ?_
  refine lv_if_lt (tgt := 15) hx hb dX4_kept_1 (by decide) (fun c_1_0 => ?_) (fun c_1_0 => ?_)
  · exact cx_throwI hx hb hl9 hown hta aw_236 aw_47 (List.mem_of_getElem? (i := 6) rfl) hXW hXZ hS hl hml dX4_kept_15 dX4_kept_18 dX4_kept_19 dX4_kept_21 dX4_kept_24 hEx (Nat.le_of_ble_eq_true rfl) (Nat.le_of_ble_eq_true rfl) (Nat.le_of_ble_eq_true rfl) (Nat.le_of_ble_eq_true rfl) hlocks hS.2.2 (Nat.le_of_ble_eq_true rfl) (Nat.le_of_ble_eq_true rfl) (fun t ha hsz hk => ⟨0, (by unfold mX4_kept; rewrite [if_pos c_1_0]; (first | done | rfl)), ⟨rfl, hP.kept (fun k q hq => hk q.1 (hP k q hq).lt), va_K.moved ha hK, hD⟩, Nat.le_trans hS.1 hsz, fun q h1 h2 => (hk q (Nat.lt_of_lt_of_le h1 hS.1)).trans (hS.2.1 q h1 h2)⟩)
  · refine lv_iload_n hx hb dX4_kept_4 rfl (lv_at hl 1 rfl) ?_
    refine lv_aload_n hx hb dX4_kept_5 rfl (lv_at hl 0 rfl) ?_
    refine va_get (D := (dC, dI)) (ci := 4) (v := .ref (a 6)) (C := RX4) (T := TX4) (N := 12) hx hb hta inA_X4 hown hK hP 0 rfl rfl 3 (by decide) (hta _ aw_175) (fun _ h9 => h9) rfl dX4_kept_6 ?_
    refine va_getN (D := (dC, dI)) (ci := 0) (v := .int (nI n)) (C := RX0) (T := TX0) (N := 3) hx hb hta inA_X0 hown hK hP 6 rfl rfl 1 (by decide) (hN.nf 22 rfl) (fun _ h9 => h9) rfl dX4_kept_9 ?_
    refine lv_icmp_lt (tgt := 25) hx hb dX4_kept_12 (by decide) (fun c_12_1 => ?_) (fun c_12_1 => ?_)
    · refine lv_iload_n hx hb dX4_kept_25 rfl (lv_at hl 2 rfl) ?_
      refine lv_if_lt (tgt := 35) hx hb dX4_kept_26 (by decide) (fun c_26_2 => ?_) (fun c_26_2 => ?_)
      · exact cx_throwI hx hb hl9 hown hta aw_236 aw_47 (List.mem_of_getElem? (i := 7) rfl) hXW hXZ hS hl hml dX4_kept_35 dX4_kept_38 dX4_kept_39 dX4_kept_41 dX4_kept_44 hEx (Nat.le_of_ble_eq_true rfl) (Nat.le_of_ble_eq_true rfl) (Nat.le_of_ble_eq_true rfl) (Nat.le_of_ble_eq_true rfl) hlocks hS.2.2 (Nat.le_of_ble_eq_true rfl) (Nat.le_of_ble_eq_true rfl) (fun t ha hsz hk => ⟨0, (by unfold mX4_kept; rewrite [if_neg c_1_0]; rewrite [if_pos c_12_1]; rewrite [if_pos c_26_2]; (first | done | rfl)), ⟨rfl, hP.kept (fun k q hq => hk q.1 (hP k q hq).lt), va_K.moved ha hK, hD⟩, Nat.le_trans hS.1 hsz, fun q h1 h2 => (hk q (Nat.lt_of_lt_of_le h1 hS.1)).trans (hS.2.1 q h1 h2)⟩)
      · refine lv_iload_n hx hb dX4_kept_29 rfl (lv_at hl 2 rfl) ?_
        refine lv_bipush (v := 6) hx hb dX4_kept_30 (by decide) ?_
        refine lv_icmp_lt (tgt := 45) hx hb dX4_kept_32 (by decide) (fun c_32_3 => ?_) (fun c_32_3 => ?_)
        · have hlt9 : p0.toNatClampNeg < n := cx_clt c_1_0 c_12_1 (by omega)
          refine lv_aload_n hx hb dX4_kept_45 rfl (lv_at hl 0 rfl) ?_
          refine va_get (D := (dC, dI)) (ci := 4) (v := .ref (a 6)) (C := RX4) (T := TX4) (N := 12) hx hb hta inA_X4 hown hK hP 0 rfl rfl 3 (by decide) (hta _ aw_175) (fun _ h9 => h9) rfl dX4_kept_46 ?_
          refine va_getN (D := (dC, dI)) (ci := 0) (v := .ref (a 7)) (C := RX0) (T := TX0) (N := 3) hx hb hta inA_X0 hown hK hP 6 rfl rfl 0 (by decide) (hN.nf 21 rfl) (fun _ h9 => h9) rfl dX4_kept_49 ?_
          refine lv_iload_n hx hb dX4_kept_52 rfl (lv_at hl 1 rfl) ?_
          refine cx_aald hx hb hK hP 7 3 rfl rfl (cx_inN c_1_0 c_12_1 hn (by omega)) (hrow _ (Nat.lt_of_lt_of_le hlt9 hn)).1 dX4_kept_53 ?_
          refine lv_iload_n hx hb dX4_kept_54 rfl (lv_at hl 2 rfl) ?_
          refine cx_callSi (va_runVN (As := [.int p1]) (rest := []) ⟨hx, hb, hml, hown, hta⟩ (c_X1_part l dC dI a k LP N L f1 f2 f3 f4 f5 f6 f7 f8 rd f10 f11 f12 n f14 lf wd ho ro pa rs E (rowA rs p0.toNatClampNeg) ((hrow _ (Nat.lt_of_lt_of_le hlt9 hn)).2) p1) ⟨va_cnB 1 hta (gC aw_492) rfl rfl rfl (hN.nm 23 rfl) (hta _ aw_42) (by decide +kernel) ⟨Nat.le_of_ble_eq_true rfl, Nat.le_of_ble_eq_true rfl⟩, (hta _ aw_491), (hta _ aw_18)⟩ (cx_preVS hK hP hN (cx_recvP (ci := 1) hK hP (hrow _ (Nat.lt_of_lt_of_le hlt9 hn)).2 rfl rfl)) rfl rfl hl.1 rfl (lv_room (Nat.le_of_ble_eq_true rfl)) dX4_kept_55 ⟨Nat.le_of_ble_eq_true rfl, Nat.le_of_ble_eq_true rfl⟩) (fun r hw_5 => ?_)
          subst hw_5
          refine vx_ret ?_
          refine W.widen (k := 1) (n := 6) (Nat.le_of_ble_eq_true rfl) (Nat.le_of_ble_eq_true rfl) ?_
          exact W.iret (v := mX1_part E (rowA rs p0.toNatClampNeg) p1) hx hb hr (fun t ht hW => ⟨⟨mX1_part E (rowA rs p0.toNatClampNeg) p1, (), rfl, (by unfold mX4_kept; rewrite [if_neg c_1_0]; rewrite [if_pos c_12_1]; rewrite [if_neg c_26_2]; rewrite [if_pos c_32_3]; (first | done | rfl)), by rw [ht]; exact hP, va_K.moved hW.alike hK, hD⟩, hS.F ht⟩) hS.2.2 dX4_kept_58
        · exact cx_throwI hx hb hl9 hown hta aw_236 aw_47 (List.mem_of_getElem? (i := 7) rfl) hXW hXZ hS hl hml dX4_kept_35 dX4_kept_38 dX4_kept_39 dX4_kept_41 dX4_kept_44 hEx (Nat.le_of_ble_eq_true rfl) (Nat.le_of_ble_eq_true rfl) (Nat.le_of_ble_eq_true rfl) (Nat.le_of_ble_eq_true rfl) hlocks hS.2.2 (Nat.le_of_ble_eq_true rfl) (Nat.le_of_ble_eq_true rfl) (fun t ha hsz hk => ⟨0, (by unfold mX4_kept; rewrite [if_neg c_1_0]; rewrite [if_pos c_12_1]; rewrite [if_neg c_26_2]; rewrite [if_neg c_32_3]; (first | done | rfl)), ⟨rfl, hP.kept (fun k q hq => hk q.1 (hP k q hq).lt), va_K.moved ha hK, hD⟩, Nat.le_trans hS.1 hsz, fun q h1 h2 => (hk q (Nat.lt_of_lt_of_le h1 hS.1)).trans (hS.2.1 q h1 h2)⟩)
    · exact cx_throwI hx hb hl9 hown hta aw_236 aw_47 (List.mem_of_getElem? (i := 6) rfl) hXW hXZ hS hl hml dX4_kept_15 dX4_kept_18 dX4_kept_19 dX4_kept_21 dX4_kept_24 hEx (Nat.le_of_ble_eq_true rfl) (Nat.le_of_ble_eq_true rfl) (Nat.le_of_ble_eq_true rfl) (Nat.le_of_ble_eq_true rfl) hlocks hS.2.2 (Nat.le_of_ble_eq_true rfl) (Nat.le_of_ble_eq_true rfl) (fun t ha hsz hk => ⟨0, (by unfold mX4_kept; rewrite [if_neg c_1_0]; rewrite [if_neg c_12_1]; (first | done | rfl)), ⟨rfl, hP.kept (fun k q hq => hk q.1 (hP k q hq).lt), va_K.moved ha hK, hD⟩, Nat.le_trans hS.1 hsz, fun q h1 h2 => (hk q (Nat.lt_of_lt_of_le h1 hS.1)).trans (hS.2.1 q h1 h2)⟩)
end
section
/-- PageRows.stale: at row i, j rows left, t found; the path's numbers -/
def mStaL (L : Nat) (f1 f8 : Int32) (wd : Nat → Int64) (ho ro : Nat → Int32) (rs : Nat → Option Nat) (E : Nat → Nat → Int32) (p0 : Int32) : Nat → Nat → Nat → Nat → Int64 → Int32 → Int32 → Int32 → (Nat → Int32) → Nat × Nat × Int64 × Int32 × Int32 × Int32 × (Nat → Int32)
  | 0, _, t, rd, lf, f10, f11, f12, pa => (t, rd, lf, f10, f11, f12, pa)
  | j + 1, i, t, rd, lf, f10, f11, f12, pa => if E 0 (rowA rs i) = f1 then
      (match mX4_isStale L f1 f8 f10 lf wd ho ro pa E (rowA rs i) p0 with
      | (r, rd', lf', f10', f11', f12', pa') => if r = 0 then mStaL L f1 f8 wd ho ro rs E p0 j (i + 1) t rd' lf' f10' f11' f12' pa' else mStaL L f1 f8 wd ho ro rs E p0 j (i + 1) (t + 1) rd' lf' f10' f11' f12' pa')
    else mStaL L f1 f8 wd ho ro rs E p0 j (i + 1) t rd lf f10 f11 f12 pa
def mStale (p0 : Int32) (x : Nat × Nat × Int64 × Int32 × Int32 × Int32 × (Nat → Int32)) : Nat ⊕ (Int32 × Nat × Int64 × Int32 × Int32 × Int32 × (Nat → Int32)) :=
  if mX4_isKind p0 = 0 then .inl 1 else .inr (nI x.1, x.2)

set_option maxHeartbeats 4000000 in
set_option maxRecDepth 100000 in
theorem c_X4_stale (l : Launch) (hl9 : l.stackTraces = false) (dC : Nat → ClassId) (dI : Nat → Nat → Nat) (a : Nat → Nat) (k : Nat → ClassId) (LP : List Nat) (N : Nat) (L : Nat) (f1 f2 f3 f4 f5 f6 f7 f8 : Int32) (rd : Nat) (f10 f11 f12 : Int32) (n : Nat) (f14 : Int32) (lf : Int64) (wd : Nat → Int64) (ho ro pa : Nat → Int32) (rs : Nat → Option Nat) (E : Nat → Nat → Int32)  (sz : Nat) (p0 : Int32) (hL1 : 1 ≤ L) (hL4 : L ≤ 4) (hho : HOK ho) (hf1 : vp_in f1 4) (hro : ¬ ro f1.toNatClampNeg < 0) (hn : n ≤ N) (hN32 : N ≤ 32) (hrow : ∀ i, i < N → rs i = some (rowA rs i) ∧ rowA rs i ∈ LP) : vx_Met l yX4_stale (wX4_stale :: AW) ({ frames := 6, cells := 1, slots := 6, locals := 96 }) (va_Pc [.ref (a 0), .int p0] (CPrX dC dI (CWl a k LP N L f1 f2 f3 f4 f5 f6 f7 f8 rd f10 f11 f12 n f14 lf wd ho ro pa rs E) [(k 0, .long), (k 1, .int), (k 2, .int), (k 3, .object "PageRows$Entry"), (k 4, .int)] sz)) (va_Qi (fun (r : Int32) (u : Nat × Int64 × Int32 × Int32 × Int32 × (Nat → Int32)) => .inr (r, u) = mStale p0 (mStaL L f1 f8 wd ho ro rs E p0 n 0 0 rd lf f10 f11 f12 pa)) (fun (u : Nat × Int64 × Int32 × Int32 × Int32 × (Nat → Int32)) (t : State) => match u with | (rd', lf', f10', f11', f12', pa') => va_P (dC, dI) vwCl (CWl a k LP N L f1 f2 f3 f4 f5 f6 f7 f8 rd' f10' f11' f12' n f14 lf' wd ho ro pa' rs E) t.heap ∧ va_K (dC, dI) vwCl [(k 0, .long), (k 1, .int), (k 2, .int), (k 3, .object "PageRows$Entry"), (k 4, .int)] t ∧ va_D (va_A (CWl a k LP N L f1 f2 f3 f4 f5 f6 f7 f8 rd f10 f11 f12 n f14 lf wd ho ro pa rs E) sz) (CWl a k LP N L f1 f2 f3 f4 f5 f6 f7 f8 rd' f10' f11' f12' n f14 lf' wd ho ro pa' rs E)) (va_A (CWl a k LP N L f1 f2 f3 f4 f5 f6 f7 f8 rd f10 f11 f12 n f14 lf wd ho ro pa rs E) sz)) (vx_X (fun u : Nat => .inl u = mStale p0 (mStaL L f1 f8 wd ho ro rs E p0 n 0 0 rd lf f10 f11 f12 pa)) (fun (E9 : String) (u : Nat) (t : State) => E9 = excN u ∧ va_P (dC, dI) vwCl (CWl a k LP N L f1 f2 f3 f4 f5 f6 f7 f8 rd f10 f11 f12 n f14 lf wd ho ro pa rs E) t.heap ∧ va_K (dC, dI) vwCl [(k 0, .long), (k 1, .int), (k 2, .int), (k 3, .object "PageRows$Entry"), (k 4, .int)] t ∧ va_D (va_A (CWl a k LP N L f1 f2 f3 f4 f5 f6 f7 f8 rd f10 f11 f12 n f14 lf wd ho ro pa rs E) sz) (CWl a k LP N L f1 f2 f3 f4 f5 f6 f7 f8 rd f10 f11 f12 n f14 lf wd ho ro pa rs E)) (va_A (CWl a k LP N L f1 f2 f3 f4 f5 f6 f7 f8 rd f10 f11 f12 n f14 lf wd ho ro pa rs E) sz)) 1 6 (va_A (CWl a k LP N L f1 f2 f3 f4 f5 f6 f7 f8 rd f10 f11 f12 n f14 lf wd ho ro pa rs E) sz) := by
  refine cx_ofX (cc := cX4_stale) (maxL := 5) (ret := some .int) (by decide) rfl (Nat.le_of_ble_eq_true rfl) ?_
  intro p e s m below meth c ls hx hb hr hts hown hlocks hml hEx hl hB
  have hta : ∀ w ∈ AW, w.before [.ref (a 0), .int p0].toArray s = true := fun w h => hts w (List.mem_cons_of_mem _ h)
  have hl : lv_has ls 5 [(0, .ref (a 0)), (1, .int p0)] := hl
  have hown : s.vm.findClass RX4 = some m.cls := hown
  obtain ⟨⟨rfl, ⟨hP, hK, hN⟩, hD0⟩, hXW, hXZ⟩ := hB
  have hD := hD0.self (sz := s.heap.size)
  generalize hAe : va_A (CWl a k LP N L f1 f2 f3 f4 f5 f6 f7 f8 rd f10 f11 f12 n f14 lf wd ho ro pa rs E) s.heap.size = A at hD hXZ ⊢
  have hA : ∀ q : Nat, s.heap.size ≤ q → A q := fun q h => by rw [← hAe]; exact Or.inr h
  have hS : va_S A s.heap s.heap [] := va_S.rf
  have loop : ¬ mX4_isKind p0 = 0 → ∀ (j i t : Nat) (rd1 : Nat) (lf1 : Int64) (f101 f111 f121 : Int32) (pa1 : Nat → Int32), i + j = n → t ≤ i → mStaL L f1 f8 wd ho ro rs E p0 n 0 0 rd lf f10 f11 f12 pa = mStaL L f1 f8 wd ho ro rs E p0 j i t rd1 lf1 f101 f111 f121 pa1 → ∀ (H : Heap) (locs : List Loc), va_P (dC, dI) vwCl (CWl a k LP N L f1 f2 f3 f4 f5 f6 f7 f8 rd1 f101 f111 f121 n f14 lf1 wd ho ro pa1 rs E) H → va_D A (CWl a k LP N L f1 f2 f3 f4 f5 f6 f7 f8 rd1 f101 f111 f121 n f14 lf1 wd ho ro pa1 rs E) → va_S A s.heap H locs → ∀ (ls : Array Slot), lv_has ls 5 [(3, .int (nI i)), (2, .int (nI t)), (0, .ref (a 0)), (1, .int p0)] → W p l e ({ frames := 6, cells := 1, slots := 6, locals := 96 }) s m [.ref (a 0), .int p0].toArray below meth c H locs 0 0 (vx_MQ below (va_Qi (fun (r : Int32) (u : Nat × Int64 × Int32 × Int32 × Int32 × (Nat → Int32)) => .inr (r, u) = mStale p0 (mStaL L f1 f8 wd ho ro rs E p0 n 0 0 rd lf f10 f11 f12 pa)) (fun (u : Nat × Int64 × Int32 × Int32 × Int32 × (Nat → Int32)) (t : State) => match u with | (rd', lf', f10', f11', f12', pa') => va_P (dC, dI) vwCl (CWl a k LP N L f1 f2 f3 f4 f5 f6 f7 f8 rd' f10' f11' f12' n f14 lf' wd ho ro pa' rs E) t.heap ∧ va_K (dC, dI) vwCl [(k 0, .long), (k 1, .int), (k 2, .int), (k 3, .object "PageRows$Entry"), (k 4, .int)] t ∧ va_D A (CWl a k LP N L f1 f2 f3 f4 f5 f6 f7 f8 rd' f10' f11' f12' n f14 lf' wd ho ro pa' rs E)) A) (vx_X (fun u : Nat => .inl u = mStale p0 (mStaL L f1 f8 wd ho ro rs E p0 n 0 0 rd lf f10 f11 f12 pa)) (fun (E9 : String) (u : Nat) (t : State) => E9 = excN u ∧ va_P (dC, dI) vwCl (CWl a k LP N L f1 f2 f3 f4 f5 f6 f7 f8 rd f10 f11 f12 n f14 lf wd ho ro pa rs E) t.heap ∧ va_K (dC, dI) vwCl [(k 0, .long), (k 1, .int), (k 2, .int), (k 3, .object "PageRows$Entry"), (k 4, .int)] t ∧ va_D A (CWl a k LP N L f1 f2 f3 f4 f5 f6 f7 f8 rd f10 f11 f12 n f14 lf wd ho ro pa rs E)) A) [.ref (a 0), .int p0].toArray s 1 6 A) (F0 m 21 ls []) := by
    intro hkind j
    induction j with
    | zero =>
      intro i t rd1 lf1 f101 f111 f121 pa1 hi hti hm H locs hP hD hS ls hl
      refine lv_iload_n hx hb dX4_stale_21 rfl (lv_at hl 0 rfl) ?_
      refine lv_aload_n hx hb dX4_stale_22 rfl (lv_at hl 2 rfl) ?_
      refine va_get (D := (dC, dI)) (ci := 4) (v := .ref (a 6)) (C := RX4) (T := TX4) (N := 12) hx hb hta inA_X4 hown hK hP 0 rfl rfl 3 (by decide) (hta _ aw_175) (fun _ h9 => h9) rfl dX4_stale_23 ?_
      refine va_getN (D := (dC, dI)) (ci := 0) (v := .int (nI n)) (C := RX0) (T := TX0) (N := 3) hx hb hta inA_X0 hown hK hP 6 rfl rfl 1 (by decide) (hN.nf 22 rfl) (fun _ h9 => h9) rfl dX4_stale_26 ?_
      refine lv_icmp_ge (tgt := 74) hx hb dX4_stale_29 (by decide) (fun c_29_2 => ?_) (fun c_29_2 => ?_)
      · refine lv_iload_n hx hb dX4_stale_74 rfl (lv_at hl 1 rfl) ?_
        refine vx_ret ?_
        refine W.widen (k := 1) (n := 6) (Nat.le_of_ble_eq_true rfl) (Nat.le_of_ble_eq_true rfl) ?_
        exact W.iret (v := nI t) hx hb hr (fun t9 ht hW => ⟨⟨nI t, (rd1, lf1, f101, f111, f121, pa1), rfl, (by unfold mStale; rewrite [if_neg hkind, hm]; rfl), by rw [ht]; exact hP, va_K.moved hW.alike hK, hD⟩, hS.F ht⟩) hS.2.2 dX4_stale_75
      · exact absurd (nI_le (by omega) (by omega)) c_29_2
    | succ j ih =>
      intro i t rd1 lf1 f101 f111 f121 pa1 hi hti hm H locs hP hD hS ls hl
      refine lv_iload_n hx hb dX4_stale_21 rfl (lv_at hl 0 rfl) ?_
      refine lv_aload_n hx hb dX4_stale_22 rfl (lv_at hl 2 rfl) ?_
      refine va_get (D := (dC, dI)) (ci := 4) (v := .ref (a 6)) (C := RX4) (T := TX4) (N := 12) hx hb hta inA_X4 hown hK hP 0 rfl rfl 3 (by decide) (hta _ aw_175) (fun _ h9 => h9) rfl dX4_stale_23 ?_
      refine va_getN (D := (dC, dI)) (ci := 0) (v := .int (nI n)) (C := RX0) (T := TX0) (N := 3) hx hb hta inA_X0 hown hK hP 6 rfl rfl 1 (by decide) (hN.nf 22 rfl) (fun _ h9 => h9) rfl dX4_stale_26 ?_
      refine lv_icmp_ge (tgt := 74) hx hb dX4_stale_29 (by decide) (fun c_29_3 => ?_) (fun c_29_3 => ?_)
      · exact absurd c_29_3 (nI_ge (by omega) (by omega))
      · refine lv_aload_n hx hb dX4_stale_32 rfl (lv_at hl 2 rfl) ?_
        refine va_get (D := (dC, dI)) (ci := 4) (v := .ref (a 6)) (C := RX4) (T := TX4) (N := 12) hx hb hta inA_X4 hown hK hP 0 rfl rfl 3 (by decide) (hta _ aw_175) (fun _ h9 => h9) rfl dX4_stale_33 ?_
        refine va_getN (D := (dC, dI)) (ci := 0) (v := .ref (a 7)) (C := RX0) (T := TX0) (N := 3) hx hb hta inA_X0 hown hK hP 6 rfl rfl 0 (by decide) (hN.nf 21 rfl) (fun _ h9 => h9) rfl dX4_stale_36 ?_
        refine lv_iload_n hx hb dX4_stale_39 rfl (lv_at hl 0 rfl) ?_
        refine cx_aald hx hb hK hP 7 3 rfl rfl (vp_in_nI (by omega) (by omega)) (by rw [nI_clamp (by omega)]; exact (hrow i (by omega)).1) dX4_stale_40 ?_
        refine lv_astore (lv' := [(4, .ref (rowA rs i)), (3, .int (nI i)), (2, .int (nI t)), (0, .ref (a 0)), (1, .int p0)]) hx hb dX4_stale_41 hl (by decide) rfl (fun ls hl => ?_)
        refine lv_aload hx hb dX4_stale_43 (lv_at hl 0 rfl) ?_
        obtain ⟨k_5, hk_5⟩ := va_pl_get (X := (CWx a k N L f1 f2 f3 f4 f5 f6 f7 f8 rd1 f101 f111 f121 n f14 lf1 wd ho ro pa1 rs)) (f := (CEf E)) (hrow i (by omega)).2
        refine va_getN (D := (dC, dI)) (ci := 1) (v := .int (E 0 (rowA rs i))) (C := RX1) (T := TX1) (N := 6) hx hb hta inA_X1 hown hK hP k_5 hk_5 rfl 0 (by decide) (hN.nf 10 rfl) (fun _ h9 => h9) rfl dX4_stale_45 ?_
        refine lv_aload_n hx hb dX4_stale_48 rfl (lv_at hl 3 rfl) ?_
        refine va_get (D := (dC, dI)) (ci := 4) (v := .int f1) (C := RX4) (T := TX4) (N := 12) hx hb hta inA_X4 hown hK hP 0 rfl rfl 5 (by decide) (hta _ aw_177) (fun _ h9 => h9) rfl dX4_stale_49 ?_
        refine lv_icmp_ne (tgt := 68) hx hb dX4_stale_52 (by decide) (fun c_52_5 => ?_) (fun c_52_5 => ?_)
        · refine lv_iinc (v := nI (i + 1)) (lv' := [(3, .int (nI (i + 1))), (4, .ref (rowA rs i)), (2, .int (nI t)), (0, .ref (a 0)), (1, .int p0)]) hx hb dX4_stale_68 hl (k := 1) rfl (cx_inc i 1 rfl) (by decide) rfl (fun ls hl => ?_)
          refine lv_goto (tgt := 21) hx hb dX4_stale_71 (by decide) ?_
          exact ih _ _ _ _ _ _ _ _ (by omega) (by omega) (by rewrite [hm, mStaL]; rewrite [if_neg c_52_5]; (first | done | rfl)) H locs hP hD hS ls (lv_sub hl [0, 2, 3, 4] rfl)
        · refine lv_aload_n hx hb dX4_stale_55 rfl (lv_at hl 3 rfl) ?_
          refine lv_aload hx hb dX4_stale_56 (lv_at hl 0 rfl) ?_
          refine lv_iload_n hx hb dX4_stale_58 rfl (lv_at hl 4 rfl) ?_
          have hFc : ∀ q, va_A (CWl a k LP N L f1 f2 f3 f4 f5 f6 f7 f8 rd1 f101 f111 f121 n f14 lf1 wd ho ro pa1 rs E) H.size q → A q := cx_free hD hS hA
          refine va_calli (va_runV (As := [.ref (rowA rs i), .int p0]) (rest := []) ⟨hx, hb, hml, hown, hta⟩ (c_X4_isStale l dC dI a k LP N L f1 f2 f3 f4 f5 f6 f7 f8 rd1 f101 f111 f121 n f14 lf1 wd ho ro pa1 rs E (rowA rs i) ((hrow i (by omega)).2) H.size p0 hL1 hL4 hho hf1 hro) (cwV 2 hta (gV aw_500 aw_502 aw_19 aw_38 aw_503) rfl rfl rfl (by decide +kernel) ⟨Nat.le_of_ble_eq_true rfl, Nat.le_of_ble_eq_true rfl⟩) (cx_preVQ hK hP hN (va_recv hK hP (ci := 4) (q0 := 0) rfl rfl) hD) rfl rfl hl.1 rfl (lv_room (Nat.le_of_ble_eq_true rfl)) dX4_stale_59 ⟨Nat.le_of_ble_eq_true rfl, Nat.le_of_ble_eq_true rfl⟩) hS (fun q _ h => hFc q h) hFc (fun r_7 u t9 H1 locs ht hvm hw_7 hB hz1 hk1 hS => ?_)
          obtain ⟨rd_7, lf_7, f10_7, f11_7, f12_7, pa_7⟩ := u
          obtain ⟨hP, hK1, hD1⟩ := hB
          rw [ht] at hP
          have hD := hD1.weaken (fun _ _ _ h => hFc _ h)
          clear hFc hz1 hk1 hK1 hD1 ht hvm
          generalize H1 = H at hP hS ⊢
          have hP : va_P (dC, dI) vwCl (CWl a k LP N L f1 f2 f3 f4 f5 f6 f7 f8 rd_7 f10_7 f11_7 f12_7 n f14 lf_7 wd ho ro pa_7 rs E) H := hP
          have hD : va_D A (CWl a k LP N L f1 f2 f3 f4 f5 f6 f7 f8 rd_7 f10_7 f11_7 f12_7 n f14 lf_7 wd ho ro pa_7 rs E) := hD
          refine lv_if_eq (tgt := 68) hx hb dX4_stale_62 (by decide) (fun c_62_7 => ?_) (fun c_62_7 => ?_)
          · refine lv_iinc (v := nI (i + 1)) (lv' := [(3, .int (nI (i + 1))), (4, .ref (rowA rs i)), (2, .int (nI t)), (0, .ref (a 0)), (1, .int p0)]) hx hb dX4_stale_68 hl (k := 1) rfl (cx_inc i 1 rfl) (by decide) rfl (fun ls hl => ?_)
            refine lv_goto (tgt := 21) hx hb dX4_stale_71 (by decide) ?_
            exact ih _ _ _ _ _ _ _ _ (by omega) (by omega) (by rewrite [hm, mStaL]; rewrite [if_pos c_52_5]; rewrite [← hw_7]; (try dsimp only); rewrite [if_pos c_62_7]; (first | done | rfl)) H locs hP hD hS ls (lv_sub hl [0, 2, 3, 4] rfl)
          · refine lv_iinc (v := nI (t + 1)) (lv' := [(2, .int (nI (t + 1))), (4, .ref (rowA rs i)), (3, .int (nI i)), (0, .ref (a 0)), (1, .int p0)]) hx hb dX4_stale_65 hl (k := 2) rfl (cx_inc t 1 rfl) (by decide) rfl (fun ls hl => ?_)
            refine lv_iinc (v := nI (i + 1)) (lv' := [(3, .int (nI (i + 1))), (2, .int (nI (t + 1))), (4, .ref (rowA rs i)), (0, .ref (a 0)), (1, .int p0)]) hx hb dX4_stale_68 hl (k := 2) rfl (cx_inc i 1 rfl) (by decide) rfl (fun ls hl => ?_)
            refine lv_goto (tgt := 21) hx hb dX4_stale_71 (by decide) ?_
            exact ih _ _ _ _ _ _ _ _ (by omega) (by omega) (by rewrite [hm, mStaL]; rewrite [if_pos c_52_5]; rewrite [← hw_7]; (try dsimp only); rewrite [if_neg c_62_7]; (first | done | rfl)) H locs hP hD hS ls (lv_sub hl [0, 1, 3, 4] rfl)
  refine lv_iload_n hx hb dX4_stale_0 rfl (lv_at hl 1 rfl) ?_
  refine cx_callSi (va_runS (As := [.int p0]) (rest := []) ⟨hx, hb, hml, hown, hta⟩ (c_X4_isKind l p0) (va_cwS 1 hta (gS aw_358 aw_359 aw_38 aw_360) rfl rfl rfl (by decide +kernel) ⟨Nat.le_of_ble_eq_true rfl, Nat.le_of_ble_eq_true rfl⟩) cx_pre0 rfl rfl hl.1 rfl (lv_room (Nat.le_of_ble_eq_true rfl)) dX4_stale_1 ⟨Nat.le_of_ble_eq_true rfl, Nat.le_of_ble_eq_true rfl⟩) (fun r hw_1 => ?_)
  subst hw_1
  refine lv_if_ne (tgt := 17) hx hb dX4_stale_4 (by decide) (fun c_4_1 => ?_) (fun c_4_1 => ?_)
  · refine lv_iconst (v := 0) hx hb dX4_stale_17 (by decide) ?_
    refine lv_istore_n (lv' := [(2, .int (0 : Int32)), (0, .ref (a 0)), (1, .int p0)]) hx hb dX4_stale_18 rfl hl (by decide) rfl (fun ls hl => ?_)
    refine lv_iconst (v := 0) hx hb dX4_stale_19 (by decide) ?_
    refine lv_istore_n (lv' := [(3, .int (0 : Int32)), (2, .int (0 : Int32)), (0, .ref (a 0)), (1, .int p0)]) hx hb dX4_stale_20 rfl hl (by decide) rfl (fun ls hl => ?_)
    exact loop c_4_1 n 0 0 rd lf f10 f11 f12 pa (by omega) (by omega) rfl s.heap [] hP hD hS ls (lv_sub hl [0, 1, 2, 3] rfl)
  · exact cx_throwA hx hb hl9 hown hta aw_326 aw_48 (List.mem_of_getElem? (i := 4) rfl) hXW hXZ hS hl hml dX4_stale_7 dX4_stale_10 dX4_stale_11 dX4_stale_13 dX4_stale_16 hEx (Nat.le_of_ble_eq_true rfl) (Nat.le_of_ble_eq_true rfl) (Nat.le_of_ble_eq_true rfl) (Nat.le_of_ble_eq_true rfl) hlocks hS.2.2 (Nat.le_of_ble_eq_true rfl) (Nat.le_of_ble_eq_true rfl) (fun t ha hsz hk => ⟨1, (by unfold mStale; rewrite [if_pos c_4_1]; rfl), ⟨rfl, hP.kept (fun k q hq => hk q.1 (hP k q hq).lt), va_K.moved ha hK, hD⟩, Nat.le_trans hS.1 hsz, fun q h1 h2 => (hk q (Nat.lt_of_lt_of_le h1 hS.1)).trans (hS.2.1 q h1 h2)⟩)
end
section
abbrev jlshr (x : Int64) (y : Int32) : Int64 := x >>> (y.toInt64 &&& 63)
/-- THE REFERENCE'S WORLD: one object, eleven arrays -/
abbrev MWl (ga : Nat → Nat) (gk : Nat → ClassId) (th : Int32) (L : Nat) (N : Nat) (mm : Nat → Int64) (f1 : Int32) (mr : Nat → Int32) (mh : Nat → Int32) (f8 : Int32) (en : Nat) (us : Nat) (eC : Nat → Int32) (eL : Nat → Int32) (eB : Nat → Int32) (eF : Nat → Int32) (eR : Nat → Int32) (eU : Nat → Int32) (eX : Nat → Int32) (f2 : Int32) (f3 : Int32) (f4 : Int32) (f5 : Int32) (f6 : Int32) (f7 : Int32) (f14 : Int32) (ff : Int32) (fa : Int32) (mn : Nat) (lg : Int32) (cm : Int32) (wa : Nat → Int32) : va_W :=
  [(ga 0, .inr (5, [.int th, .int (nI L), .int (nI N), .ref (ga 1), .int f1, .ref (ga 2), .ref (ga 3), .int f8, .int (nI en), .int (nI us), .ref (ga 4), .ref (ga 5), .ref (ga 6), .ref (ga 7), .ref (ga 8), .ref (ga 9), .ref (ga 10), .int f2, .int f3, .int f4, .int f5, .int f6, .int f7, .int f14, .int ff, .int fa, .int (nI mn), .int lg, .int cm, .ref (ga 11)])),
   (ga 1, .inl (gk 0, 4096, .inr (.inl mm))),
   (ga 2, .inl (gk 1, 4, .inl mr)),
   (ga 3, .inl (gk 2, 256, .inl mh)),
   (ga 4, .inl (gk 3, 32, .inl eC)),
   (ga 5, .inl (gk 4, 32, .inl eL)),
   (ga 6, .inl (gk 5, 32, .inl eB)),
   (ga 7, .inl (gk 6, 32, .inl eF)),
   (ga 8, .inl (gk 7, 32, .inl eR)),
   (ga 9, .inl (gk 8, 32, .inl eU)),
   (ga 10, .inl (gk 9, 32, .inl eX)),
   (ga 11, .inl (gk 10, 4, .inl wa))]
end
section
/-- PageRowsModel.isOf -/
def mX5_isOf (p0 : Int32) (p1 : Int32) : Int32 :=
  if p0 < 0 then
    (0 : Int32)
  else
    if p1 ≤ p0 then
      (0 : Int32)
    else
      (1 : Int32)
set_option maxHeartbeats 4000000 in
set_option maxRecDepth 100000 in
theorem c_X5_isOf (l : Launch) (p0 : Int32) (p1 : Int32) : Met l yX5_isOf (wX5_isOf :: AW) ({ frames := 0, cells := 0, slots := 0, locals := 0 }) (va_Pc [.int p0, .int p1] (fun _ => True)) (vp_Si (fun r => r = mX5_isOf p0 p1)) 0 0 (fun _ => False) := by
  refine cx_of (cc := cX5_isOf) (maxL := 2) (ret := some .boolean) (by decide) rfl (Nat.le_of_ble_eq_true rfl) ?_
  intro p e s m below meth c ls hx hb hr hts hown hlocks hml hnm hl hB
  have hta : ∀ w ∈ AW, w.before [.int p0, .int p1].toArray s = true := fun w h => hts w (List.mem_cons_of_mem _ h)
  have hl : lv_has ls 2 [(0, .int p0), (1, .int p1)] := hl
  have hown : s.vm.findClass RX5 = some m.cls := hown
  refine lv_iload_n hx hb dX5_isOf_0 rfl (lv_at hl 0 rfl) ?_
  refine lv_if_lt (tgt := 13) hx hb dX5_isOf_1 (by decide) (fun c_1_0 => ?_) (fun c_1_0 => ?_)
  · refine lv_iconst (v := 0) hx hb dX5_isOf_13 (by decide) ?_
    exact W.zret (ty := .boolean) (v := (0 : Int32)) hx hb hr rfl (fun t ht hW => ⟨(0 : Int32), rfl, (by unfold mX5_isOf; rewrite [if_pos c_1_0]; (first | done | rfl)), ht⟩) (fun q h => nomatch h) dX5_isOf_14
  · refine lv_iload_n hx hb dX5_isOf_4 rfl (lv_at hl 0 rfl) ?_
    refine lv_iload_n hx hb dX5_isOf_5 rfl (lv_at hl 1 rfl) ?_
    refine lv_icmp_ge (tgt := 13) hx hb dX5_isOf_6 (by decide) (fun c_6_1 => ?_) (fun c_6_1 => ?_)
    · refine lv_iconst (v := 0) hx hb dX5_isOf_13 (by decide) ?_
      exact W.zret (ty := .boolean) (v := (0 : Int32)) hx hb hr rfl (fun t ht hW => ⟨(0 : Int32), rfl, (by unfold mX5_isOf; rewrite [if_neg c_1_0]; rewrite [if_pos c_6_1]; (first | done | rfl)), ht⟩) (fun q h => nomatch h) dX5_isOf_14
    · refine lv_iconst (v := 1) hx hb dX5_isOf_9 (by decide) ?_
      refine lv_goto (tgt := 14) hx hb dX5_isOf_10 (by decide) ?_
      exact W.zret (ty := .boolean) (v := (1 : Int32)) hx hb hr rfl (fun t ht hW => ⟨(1 : Int32), rfl, (by unfold mX5_isOf; rewrite [if_neg c_1_0]; rewrite [if_neg c_6_1]; (first | done | rfl)), ht⟩) (fun q h => nomatch h) dX5_isOf_14
theorem mX5_isOf_z (p0 : Int32) (p1 : Int32) : narrow .boolean (.int (mX5_isOf p0 p1)) = .int (mX5_isOf p0 p1) := by
  unfold mX5_isOf
  repeat' split
  all_goals first | rfl | exact rfl
/-- PageRowsModel.frameOf -/
def mX5_frameOf (p0 : Int64) : Int32 :=
  ((jlshr p0 (8 : Int32)).toInt32) &&& (1048575 : Int32)
set_option maxHeartbeats 4000000 in
set_option maxRecDepth 100000 in
theorem c_X5_frameOf (l : Launch) (p0 : Int64) : Met l yX5_frameOf (wX5_frameOf :: AW) ({ frames := 0, cells := 0, slots := 0, locals := 0 }) (va_Pc [.long p0] (fun _ => True)) (vp_Si (fun r => r = mX5_frameOf p0)) 0 0 (fun _ => False) := by
  refine cx_of (cc := cX5_frameOf) (maxL := 2) (ret := some .int) (by decide) rfl (Nat.le_of_ble_eq_true rfl) ?_
  intro p e s m below meth c ls hx hb hr hts hown hlocks hml hnm hl hB
  have hta : ∀ w ∈ AW, w.before [.long p0].toArray s = true := fun w h => hts w (List.mem_cons_of_mem _ h)
  have hl : lv_has ls 2 [(0, .long p0)] := hl
  have hown : s.vm.findClass RX5 = some m.cls := hown
  refine lv_lload_n hx hb dX5_frameOf_0 rfl (lv_at hl 0 rfl) ?_
  refine lv_bipush (v := 8) hx hb dX5_frameOf_1 (by decide) ?_
  refine lv_lshr (v := jlshr p0 (8 : Int32)) hx hb dX5_frameOf_3 rfl ?_
  refine lv_l2i (v := (jlshr p0 (8 : Int32)).toInt32) hx hb dX5_frameOf_4 rfl ?_
  refine lv_ldc (v := 1048575) hx hb hown (hta _ aw_697) dX5_frameOf_5 ?_
  refine lv_iand hx hb dX5_frameOf_7 ?_
  exact W.iret (v := ((jlshr p0 (8 : Int32)).toInt32) &&& (1048575 : Int32)) hx hb hr (fun t ht hW => ⟨((jlshr p0 (8 : Int32)).toInt32) &&& (1048575 : Int32), rfl, (by unfold mX5_frameOf; (first | done | rfl)), ht⟩) (fun q h => nomatch h) dX5_frameOf_8
/-- PageRowsModel.rightsOf -/
def mX5_rightsOf (p0 : Int64) : Int32 :=
  ((jlshr p0 (1 : Int32)).toInt32) &&& (15 : Int32)
set_option maxHeartbeats 4000000 in
set_option maxRecDepth 100000 in
theorem c_X5_rightsOf (l : Launch) (p0 : Int64) : Met l yX5_rightsOf (wX5_rightsOf :: AW) ({ frames := 0, cells := 0, slots := 0, locals := 0 }) (va_Pc [.long p0] (fun _ => True)) (vp_Si (fun r => r = mX5_rightsOf p0)) 0 0 (fun _ => False) := by
  refine cx_of (cc := cX5_rightsOf) (maxL := 2) (ret := some .int) (by decide) rfl (Nat.le_of_ble_eq_true rfl) ?_
  intro p e s m below meth c ls hx hb hr hts hown hlocks hml hnm hl hB
  have hta : ∀ w ∈ AW, w.before [.long p0].toArray s = true := fun w h => hts w (List.mem_cons_of_mem _ h)
  have hl : lv_has ls 2 [(0, .long p0)] := hl
  have hown : s.vm.findClass RX5 = some m.cls := hown
  refine lv_lload_n hx hb dX5_rightsOf_0 rfl (lv_at hl 0 rfl) ?_
  refine lv_iconst (v := 1) hx hb dX5_rightsOf_1 (by decide) ?_
  refine lv_lshr (v := jlshr p0 (1 : Int32)) hx hb dX5_rightsOf_2 rfl ?_
  refine lv_l2i (v := (jlshr p0 (1 : Int32)).toInt32) hx hb dX5_rightsOf_3 rfl ?_
  refine lv_bipush (v := 15) hx hb dX5_rightsOf_4 (by decide) ?_
  refine lv_iand hx hb dX5_rightsOf_6 ?_
  exact W.iret (v := ((jlshr p0 (1 : Int32)).toInt32) &&& (15 : Int32)) hx hb hr (fun t ht hW => ⟨((jlshr p0 (1 : Int32)).toInt32) &&& (15 : Int32), rfl, (by unfold mX5_rightsOf; (first | done | rfl)), ht⟩) (fun q h => nomatch h) dX5_rightsOf_7
/-- PageRowsModel.does -/
def mX5_does (p0 : Int32) (p1 : Int32) : Int32 :=
  if ((p0 >>> ((p1 - p1 / (3 : Int32) * (3 : Int32)) &&& 31)) &&& (1 : Int32)) = (1 : Int32) then
    if p1 < (3 : Int32) then
      (1 : Int32)
    else
      if (p0 &&& (8 : Int32)) = (8 : Int32) then
        (1 : Int32)
      else
        (0 : Int32)
  else
    (0 : Int32)
set_option maxHeartbeats 4000000 in
set_option maxRecDepth 100000 in
theorem c_X5_does (l : Launch) (p0 : Int32) (p1 : Int32) : Met l yX5_does (wX5_does :: AW) ({ frames := 0, cells := 0, slots := 0, locals := 0 }) (va_Pc [.int p0, .int p1] (fun _ => True)) (vp_Si (fun r => r = mX5_does p0 p1)) 0 0 (fun _ => False) := by
  refine cx_of (cc := cX5_does) (maxL := 2) (ret := some .boolean) (by decide) rfl (Nat.le_of_ble_eq_true rfl) ?_
  intro p e s m below meth c ls hx hb hr hts hown hlocks hml hnm hl hB
  have hta : ∀ w ∈ AW, w.before [.int p0, .int p1].toArray s = true := fun w h => hts w (List.mem_cons_of_mem _ h)
  have hl : lv_has ls 2 [(0, .int p0), (1, .int p1)] := hl
  have hown : s.vm.findClass RX5 = some m.cls := hown
  refine lv_iload_n hx hb dX5_does_0 rfl (lv_at hl 0 rfl) ?_
  refine lv_iload_n hx hb dX5_does_1 rfl (lv_at hl 1 rfl) ?_
  refine lv_iconst (v := 3) hx hb dX5_does_2 (by decide) ?_
  refine lv_irem hx hb dX5_does_3 (by decide) ?_
  refine lv_ishr hx hb dX5_does_4 ?_
  refine lv_iconst (v := 1) hx hb dX5_does_5 (by decide) ?_
  refine lv_iand hx hb dX5_does_6 ?_
  refine lv_iconst (v := 1) hx hb dX5_does_7 (by decide) ?_
  refine lv_icmp_ne (tgt := 29) hx hb dX5_does_8 (by decide) (fun c_8_0 => ?_) (fun c_8_0 => ?_)
  · refine lv_iconst (v := 0) hx hb dX5_does_29 (by decide) ?_
    exact W.zret (ty := .boolean) (v := (0 : Int32)) hx hb hr rfl (fun t ht hW => ⟨(0 : Int32), rfl, (by unfold mX5_does; rewrite [if_neg c_8_0]; (first | done | rfl)), ht⟩) (fun q h => nomatch h) dX5_does_30
  · refine lv_iload_n hx hb dX5_does_11 rfl (lv_at hl 1 rfl) ?_
    refine lv_iconst (v := 3) hx hb dX5_does_12 (by decide) ?_
    refine lv_icmp_lt (tgt := 25) hx hb dX5_does_13 (by decide) (fun c_13_1 => ?_) (fun c_13_1 => ?_)
    · refine lv_iconst (v := 1) hx hb dX5_does_25 (by decide) ?_
      refine lv_goto (tgt := 30) hx hb dX5_does_26 (by decide) ?_
      exact W.zret (ty := .boolean) (v := (1 : Int32)) hx hb hr rfl (fun t ht hW => ⟨(1 : Int32), rfl, (by unfold mX5_does; rewrite [if_pos c_8_0]; rewrite [if_pos c_13_1]; (first | done | rfl)), ht⟩) (fun q h => nomatch h) dX5_does_30
    · refine lv_iload_n hx hb dX5_does_16 rfl (lv_at hl 0 rfl) ?_
      refine lv_bipush (v := 8) hx hb dX5_does_17 (by decide) ?_
      refine lv_iand hx hb dX5_does_19 ?_
      refine lv_bipush (v := 8) hx hb dX5_does_20 (by decide) ?_
      refine lv_icmp_ne (tgt := 29) hx hb dX5_does_22 (by decide) (fun c_22_2 => ?_) (fun c_22_2 => ?_)
      · refine lv_iconst (v := 0) hx hb dX5_does_29 (by decide) ?_
        exact W.zret (ty := .boolean) (v := (0 : Int32)) hx hb hr rfl (fun t ht hW => ⟨(0 : Int32), rfl, (by unfold mX5_does; rewrite [if_pos c_8_0]; rewrite [if_neg c_13_1]; rewrite [if_neg c_22_2]; (first | done | rfl)), ht⟩) (fun q h => nomatch h) dX5_does_30
      · refine lv_iconst (v := 1) hx hb dX5_does_25 (by decide) ?_
        refine lv_goto (tgt := 30) hx hb dX5_does_26 (by decide) ?_
        exact W.zret (ty := .boolean) (v := (1 : Int32)) hx hb hr rfl (fun t ht hW => ⟨(1 : Int32), rfl, (by unfold mX5_does; rewrite [if_pos c_8_0]; rewrite [if_neg c_13_1]; rewrite [if_pos c_22_2]; (first | done | rfl)), ht⟩) (fun q h => nomatch h) dX5_does_30
theorem mX5_does_z (p0 : Int32) (p1 : Int32) : narrow .boolean (.int (mX5_does p0 p1)) = .int (mX5_does p0 p1) := by
  unfold mX5_does
  repeat' split
  all_goals first | rfl | exact rfl
/-- PageRowsModel.behind -/
def mX5_behind (p0 : Int32) (p1 : Int32) : Int32 :=
  (p0 >>> ((8 : Int32) &&& 31)) &&& (((1 : Int32) <<< (((4 : Int32) * p1) &&& 31)) - (1 : Int32))
set_option maxHeartbeats 4000000 in
set_option maxRecDepth 100000 in
theorem c_X5_behind (l : Launch) (p0 : Int32) (p1 : Int32) : Met l yX5_behind (wX5_behind :: AW) ({ frames := 0, cells := 0, slots := 0, locals := 0 }) (va_Pc [.int p0, .int p1] (fun _ => True)) (vp_Si (fun r => r = mX5_behind p0 p1)) 0 0 (fun _ => False) := by
  refine cx_of (cc := cX5_behind) (maxL := 2) (ret := some .int) (by decide) rfl (Nat.le_of_ble_eq_true rfl) ?_
  intro p e s m below meth c ls hx hb hr hts hown hlocks hml hnm hl hB
  have hta : ∀ w ∈ AW, w.before [.int p0, .int p1].toArray s = true := fun w h => hts w (List.mem_cons_of_mem _ h)
  have hl : lv_has ls 2 [(0, .int p0), (1, .int p1)] := hl
  have hown : s.vm.findClass RX5 = some m.cls := hown
  refine lv_iload_n hx hb dX5_behind_0 rfl (lv_at hl 0 rfl) ?_
  refine lv_bipush (v := 8) hx hb dX5_behind_1 (by decide) ?_
  refine lv_ishr hx hb dX5_behind_3 ?_
  refine lv_iconst (v := 1) hx hb dX5_behind_4 (by decide) ?_
  refine lv_iconst (v := 4) hx hb dX5_behind_5 (by decide) ?_
  refine lv_iload_n hx hb dX5_behind_6 rfl (lv_at hl 1 rfl) ?_
  refine lv_imul hx hb dX5_behind_7 ?_
  refine lv_ishl hx hb dX5_behind_8 ?_
  refine lv_iconst (v := 1) hx hb dX5_behind_9 (by decide) ?_
  refine lv_isub hx hb dX5_behind_10 ?_
  refine lv_iand hx hb dX5_behind_11 ?_
  exact W.iret (v := (p0 >>> ((8 : Int32) &&& 31)) &&& (((1 : Int32) <<< (((4 : Int32) * p1) &&& 31)) - (1 : Int32))) hx hb hr (fun t ht hW => ⟨(p0 >>> ((8 : Int32) &&& 31)) &&& (((1 : Int32) <<< (((4 : Int32) * p1) &&& 31)) - (1 : Int32)), rfl, (by unfold mX5_behind; (first | done | rfl)), ht⟩) (fun q h => nomatch h) dX5_behind_12
/-- PageRowsModel.thrown -/
def mX5_thrown (th : Int32) : Int32 :=
  th
set_option maxHeartbeats 4000000 in
set_option maxRecDepth 100000 in
theorem c_X5_thrown (l : Launch) (dC : Nat → ClassId) (dI : Nat → Nat → Nat) (ga : Nat → Nat) (gk : Nat → ClassId) (th : Int32) (L : Nat) (N : Nat) (mm : Nat → Int64) (f1 : Int32) (mr : Nat → Int32) (mh : Nat → Int32) (f8 : Int32) (en : Nat) (us : Nat) (eC : Nat → Int32) (eL : Nat → Int32) (eB : Nat → Int32) (eF : Nat → Int32) (eR : Nat → Int32) (eU : Nat → Int32) (eX : Nat → Int32) (f2 : Int32) (f3 : Int32) (f4 : Int32) (f5 : Int32) (f6 : Int32) (f7 : Int32) (f14 : Int32) (ff : Int32) (fa : Int32) (mn : Nat) (lg : Int32) (cm : Int32) (wa : Nat → Int32)    : Met l yX5_thrown (wX5_thrown :: AW) ({ frames := 0, cells := 0, slots := 0, locals := 0 }) (va_Pc [.ref (ga 0)] (CPre dC dI (MWl ga gk th L N mm f1 mr mh f8 en us eC eL eB eF eR eU eX f2 f3 f4 f5 f6 f7 f14 ff fa mn lg cm wa) [(gk 0, .long), (gk 1, .int), (gk 2, .int), (gk 3, .int), (gk 4, .int), (gk 5, .int), (gk 6, .int), (gk 7, .int), (gk 8, .int), (gk 9, .boolean), (gk 10, .int)])) (vp_Si (fun r => r = mX5_thrown th)) 0 0 (fun _ => False) := by
  refine cx_of (cc := cX5_thrown) (maxL := 1) (ret := some .int) (by decide) rfl (Nat.le_of_ble_eq_true rfl) ?_
  intro p e s m below meth c ls hx hb hr hts hown hlocks hml hnm hl hB
  have hta : ∀ w ∈ AW, w.before [.ref (ga 0)].toArray s = true := fun w h => hts w (List.mem_cons_of_mem _ h)
  have hl : lv_has ls 1 [(0, .ref (ga 0))] := hl
  have hown : s.vm.findClass RX5 = some m.cls := hown
  obtain ⟨hP, hK, hN⟩ := hB
  refine lv_aload_n hx hb dX5_thrown_0 rfl (lv_at hl 0 rfl) ?_
  refine va_get (D := (dC, dI)) (ci := 5) (v := .int th) (C := RX5) (T := TX5) (N := 30) hx hb hta inA_X5 hown hK hP 0 rfl rfl 0 (by decide) (hta _ aw_511) (fun _ h9 => h9) rfl dX5_thrown_1 ?_
  exact W.iret (v := th) hx hb hr (fun t ht hW => ⟨th, rfl, (by unfold mX5_thrown; (first | done | rfl)), ht⟩) (fun q h => nomatch h) dX5_thrown_4
/-- PageRowsModel.throwing -/
def mX5_throwing (p0 : Int32) (p1 : Int32) : Int32 × Int32 :=
  if p0 = 0 then
    if p1 = 0 then
      ((0 : Int32), (0 : Int32))
    else
      ((1 : Int32), (2 : Int32))
  else
    ((1 : Int32), (1 : Int32))
set_option maxHeartbeats 4000000 in
set_option maxRecDepth 100000 in
theorem c_X5_throwing (l : Launch) (dC : Nat → ClassId) (dI : Nat → Nat → Nat) (ga : Nat → Nat) (gk : Nat → ClassId) (th : Int32) (L : Nat) (N : Nat) (mm : Nat → Int64) (f1 : Int32) (mr : Nat → Int32) (mh : Nat → Int32) (f8 : Int32) (en : Nat) (us : Nat) (eC : Nat → Int32) (eL : Nat → Int32) (eB : Nat → Int32) (eF : Nat → Int32) (eR : Nat → Int32) (eU : Nat → Int32) (eX : Nat → Int32) (f2 : Int32) (f3 : Int32) (f4 : Int32) (f5 : Int32) (f6 : Int32) (f7 : Int32) (f14 : Int32) (ff : Int32) (fa : Int32) (mn : Nat) (lg : Int32) (cm : Int32) (wa : Nat → Int32)  (sz : Nat) (p0 : Int32) (p1 : Int32)  : Met l yX5_throwing (wX5_throwing :: AW) ({ frames := 0, cells := 0, slots := 0, locals := 0 }) (va_Pc [.ref (ga 0), .int p0, .int p1] (CPrQ dC dI (MWl ga gk th L N mm f1 mr mh f8 en us eC eL eB eF eR eU eX f2 f3 f4 f5 f6 f7 f14 ff fa mn lg cm wa) [(gk 0, .long), (gk 1, .int), (gk 2, .int), (gk 3, .int), (gk 4, .int), (gk 5, .int), (gk 6, .int), (gk 7, .int), (gk 8, .int), (gk 9, .boolean), (gk 10, .int)] sz)) (va_Qi (fun (r : Int32) (u : Int32) => (r, u) = mX5_throwing p0 p1) (fun (u : Int32) (t : State) => match u with | th' => va_P (dC, dI) vwCl (MWl ga gk th' L N mm f1 mr mh f8 en us eC eL eB eF eR eU eX f2 f3 f4 f5 f6 f7 f14 ff fa mn lg cm wa) t.heap ∧ va_K (dC, dI) vwCl [(gk 0, .long), (gk 1, .int), (gk 2, .int), (gk 3, .int), (gk 4, .int), (gk 5, .int), (gk 6, .int), (gk 7, .int), (gk 8, .int), (gk 9, .boolean), (gk 10, .int)] t ∧ va_D (va_A (MWl ga gk th L N mm f1 mr mh f8 en us eC eL eB eF eR eU eX f2 f3 f4 f5 f6 f7 f14 ff fa mn lg cm wa) sz) (MWl ga gk th' L N mm f1 mr mh f8 en us eC eL eB eF eR eU eX f2 f3 f4 f5 f6 f7 f14 ff fa mn lg cm wa)) (va_A (MWl ga gk th L N mm f1 mr mh f8 en us eC eL eB eF eR eU eX f2 f3 f4 f5 f6 f7 f14 ff fa mn lg cm wa) sz)) 0 0 (va_A (MWl ga gk th L N mm f1 mr mh f8 en us eC eL eB eF eR eU eX f2 f3 f4 f5 f6 f7 f14 ff fa mn lg cm wa) sz) := by
  refine cx_of (cc := cX5_throwing) (maxL := 3) (ret := some .boolean) (by decide) rfl (Nat.le_of_ble_eq_true rfl) ?_
  intro p e s m below meth c ls hx hb hr hts hown hlocks hml hnm hl hB
  have hta : ∀ w ∈ AW, w.before [.ref (ga 0), .int p0, .int p1].toArray s = true := fun w h => hts w (List.mem_cons_of_mem _ h)
  have hl : lv_has ls 3 [(0, .ref (ga 0)), (1, .int p0), (2, .int p1)] := hl
  have hown : s.vm.findClass RX5 = some m.cls := hown
  obtain ⟨rfl, ⟨hP, hK, hN⟩, hD0⟩ := hB
  have hD := hD0.self (sz := s.heap.size)
  generalize hAe : va_A (MWl ga gk th L N mm f1 mr mh f8 en us eC eL eB eF eR eU eX f2 f3 f4 f5 f6 f7 f14 ff fa mn lg cm wa) s.heap.size = A at hD ⊢
  have hA : ∀ q : Nat, s.heap.size ≤ q → A q := fun q h => by rw [← hAe]; exact Or.inr h
  have hS : va_S A s.heap s.heap [] := va_S.rf
  refine lv_aload_n hx hb dX5_throwing_0 rfl (lv_at hl 0 rfl) ?_
  refine lv_iload_n hx hb dX5_throwing_1 rfl (lv_at hl 1 rfl) ?_
  refine lv_if_eq (tgt := 9) hx hb dX5_throwing_2 (by decide) (fun c_2_0 => ?_) (fun c_2_0 => ?_)
  · refine lv_iload_n hx hb dX5_throwing_9 rfl (lv_at hl 2 rfl) ?_
    refine lv_if_eq (tgt := 17) hx hb dX5_throwing_10 (by decide) (fun c_10_1 => ?_) (fun c_10_1 => ?_)
    · refine lv_iconst (v := 0) hx hb dX5_throwing_17 (by decide) ?_
      refine va_put (D := (dC, dI)) (ci := 5) (v := .int (0 : Int32)) (ty := .int) (C := RX5) (T := TX5) (N := 30) hx hb hta inA_X5 tyX5 tyX5_ok nmX5 hown hK hP hD hS 0 rfl rfl 0 (by decide) (hta _ aw_511) (fun _ h9 => h9) rfl (by decide +kernel) rfl rfl (Nat.le_of_ble_eq_true rfl) dX5_throwing_18 (fun H locs hP hD hS => ?_)
      have hP : va_P (dC, dI) vwCl (MWl ga gk (0 : Int32) L N mm f1 mr mh f8 en us eC eL eB eF eR eU eX f2 f3 f4 f5 f6 f7 f14 ff fa mn lg cm wa) H := hP
      have hD : va_D A (MWl ga gk (0 : Int32) L N mm f1 mr mh f8 en us eC eL eB eF eR eU eX f2 f3 f4 f5 f6 f7 f14 ff fa mn lg cm wa) := hD
      refine lv_aload_n hx hb dX5_throwing_21 rfl (lv_at hl 0 rfl) ?_
      refine va_get (D := (dC, dI)) (ci := 5) (v := .int (0 : Int32)) (C := RX5) (T := TX5) (N := 30) hx hb hta inA_X5 hown hK hP 0 rfl rfl 0 (by decide) (hta _ aw_511) (fun _ h9 => h9) rfl dX5_throwing_22 ?_
      refine lv_if_le (tgt := 32) hx hb dX5_throwing_25 (by decide) (fun c_25_2 => ?_) (fun c_25_2 => ?_)
      · refine lv_iconst (v := 0) hx hb dX5_throwing_32 (by decide) ?_
        exact W.zret (ty := .boolean) (v := (0 : Int32)) hx hb hr rfl (fun t ht hW => ⟨⟨(0 : Int32), (0 : Int32), rfl, (by unfold mX5_throwing; rewrite [if_pos c_2_0]; rewrite [if_pos c_10_1]; (first | done | rfl)), by rw [ht]; exact hP, va_K.moved hW.alike hK, hD⟩, hS.F ht⟩) hS.2.2 dX5_throwing_33
      · exact absurd (by decide) c_25_2
    · refine lv_iconst (v := 2) hx hb dX5_throwing_13 (by decide) ?_
      refine lv_goto (tgt := 18) hx hb dX5_throwing_14 (by decide) ?_
      refine va_put (D := (dC, dI)) (ci := 5) (v := .int (2 : Int32)) (ty := .int) (C := RX5) (T := TX5) (N := 30) hx hb hta inA_X5 tyX5 tyX5_ok nmX5 hown hK hP hD hS 0 rfl rfl 0 (by decide) (hta _ aw_511) (fun _ h9 => h9) rfl (by decide +kernel) rfl rfl (Nat.le_of_ble_eq_true rfl) dX5_throwing_18 (fun H locs hP hD hS => ?_)
      have hP : va_P (dC, dI) vwCl (MWl ga gk (2 : Int32) L N mm f1 mr mh f8 en us eC eL eB eF eR eU eX f2 f3 f4 f5 f6 f7 f14 ff fa mn lg cm wa) H := hP
      have hD : va_D A (MWl ga gk (2 : Int32) L N mm f1 mr mh f8 en us eC eL eB eF eR eU eX f2 f3 f4 f5 f6 f7 f14 ff fa mn lg cm wa) := hD
      refine lv_aload_n hx hb dX5_throwing_21 rfl (lv_at hl 0 rfl) ?_
      refine va_get (D := (dC, dI)) (ci := 5) (v := .int (2 : Int32)) (C := RX5) (T := TX5) (N := 30) hx hb hta inA_X5 hown hK hP 0 rfl rfl 0 (by decide) (hta _ aw_511) (fun _ h9 => h9) rfl dX5_throwing_22 ?_
      refine lv_if_le (tgt := 32) hx hb dX5_throwing_25 (by decide) (fun c_25_3 => ?_) (fun c_25_3 => ?_)
      · exact absurd c_25_3 (by decide)
      · refine lv_iconst (v := 1) hx hb dX5_throwing_28 (by decide) ?_
        refine lv_goto (tgt := 33) hx hb dX5_throwing_29 (by decide) ?_
        exact W.zret (ty := .boolean) (v := (1 : Int32)) hx hb hr rfl (fun t ht hW => ⟨⟨(1 : Int32), (2 : Int32), rfl, (by unfold mX5_throwing; rewrite [if_pos c_2_0]; rewrite [if_neg c_10_1]; (first | done | rfl)), by rw [ht]; exact hP, va_K.moved hW.alike hK, hD⟩, hS.F ht⟩) hS.2.2 dX5_throwing_33
  · refine lv_iconst (v := 1) hx hb dX5_throwing_5 (by decide) ?_
    refine lv_goto (tgt := 18) hx hb dX5_throwing_6 (by decide) ?_
    refine va_put (D := (dC, dI)) (ci := 5) (v := .int (1 : Int32)) (ty := .int) (C := RX5) (T := TX5) (N := 30) hx hb hta inA_X5 tyX5 tyX5_ok nmX5 hown hK hP hD hS 0 rfl rfl 0 (by decide) (hta _ aw_511) (fun _ h9 => h9) rfl (by decide +kernel) rfl rfl (Nat.le_of_ble_eq_true rfl) dX5_throwing_18 (fun H locs hP hD hS => ?_)
    have hP : va_P (dC, dI) vwCl (MWl ga gk (1 : Int32) L N mm f1 mr mh f8 en us eC eL eB eF eR eU eX f2 f3 f4 f5 f6 f7 f14 ff fa mn lg cm wa) H := hP
    have hD : va_D A (MWl ga gk (1 : Int32) L N mm f1 mr mh f8 en us eC eL eB eF eR eU eX f2 f3 f4 f5 f6 f7 f14 ff fa mn lg cm wa) := hD
    refine lv_aload_n hx hb dX5_throwing_21 rfl (lv_at hl 0 rfl) ?_
    refine va_get (D := (dC, dI)) (ci := 5) (v := .int (1 : Int32)) (C := RX5) (T := TX5) (N := 30) hx hb hta inA_X5 hown hK hP 0 rfl rfl 0 (by decide) (hta _ aw_511) (fun _ h9 => h9) rfl dX5_throwing_22 ?_
    refine lv_if_le (tgt := 32) hx hb dX5_throwing_25 (by decide) (fun c_25_4 => ?_) (fun c_25_4 => ?_)
    · exact absurd c_25_4 (by decide)
    · refine lv_iconst (v := 1) hx hb dX5_throwing_28 (by decide) ?_
      refine lv_goto (tgt := 33) hx hb dX5_throwing_29 (by decide) ?_
      exact W.zret (ty := .boolean) (v := (1 : Int32)) hx hb hr rfl (fun t ht hW => ⟨⟨(1 : Int32), (1 : Int32), rfl, (by unfold mX5_throwing; rewrite [if_neg c_2_0]; (first | done | rfl)), by rw [ht]; exact hP, va_K.moved hW.alike hK, hD⟩, hS.F ht⟩) hS.2.2 dX5_throwing_33
theorem of_in {x M : Int32} {n : Nat} (h : ¬ mX5_isOf x M = 0) (hM : M = nI n) (hn : n < 2 ^ 31 := by decide) : vp_in x n := by
  unfold mX5_isOf at h
  by_cases h1 : x < 0
  · rw [if_pos h1] at h
    exact absurd rfl h
  · rw [if_neg h1] at h
    by_cases h2 : M ≤ x
    · rw [if_pos h2] at h
      exact absurd rfl h
    · exact cx_in h1 h2 hM hn
/-- 'throwing' of one condition: its answer tells it -/
theorem thr1 {x r t : Int32} (h : (r, t) = mX5_throwing x 0) (hr : r = 0) : x = 0 := by
  unfold mX5_throwing at h
  by_cases hx : x = 0
  · exact hx
  · rw [if_neg hx] at h
    exact absurd hr (by cases h; decide)
/-- PageRowsModel.mapped -/
def mX5_mapped (mh : Nat → Int32) (f8 : Int32) (p0 : Int32) : Int32 :=
  if f8 = 0 then
    p0
  else
    if (mX5_isOf p0 (256 : Int32)) = 0 then
      (-1 : Int32)
    else
      mh p0.toNatClampNeg
set_option maxHeartbeats 4000000 in
set_option maxRecDepth 100000 in
theorem c_X5_mapped (l : Launch) (dC : Nat → ClassId) (dI : Nat → Nat → Nat) (ga : Nat → Nat) (gk : Nat → ClassId) (th : Int32) (L : Nat) (N : Nat) (mm : Nat → Int64) (f1 : Int32) (mr : Nat → Int32) (mh : Nat → Int32) (f8 : Int32) (en : Nat) (us : Nat) (eC : Nat → Int32) (eL : Nat → Int32) (eB : Nat → Int32) (eF : Nat → Int32) (eR : Nat → Int32) (eU : Nat → Int32) (eX : Nat → Int32) (f2 : Int32) (f3 : Int32) (f4 : Int32) (f5 : Int32) (f6 : Int32) (f7 : Int32) (f14 : Int32) (ff : Int32) (fa : Int32) (mn : Nat) (lg : Int32) (cm : Int32) (wa : Nat → Int32)  (p0 : Int32)  : Met l yX5_mapped (wX5_mapped :: AW) ({ frames := 1, cells := 0, slots := 0, locals := 21 }) (va_Pc [.ref (ga 0), .int p0] (CPre dC dI (MWl ga gk th L N mm f1 mr mh f8 en us eC eL eB eF eR eU eX f2 f3 f4 f5 f6 f7 f14 ff fa mn lg cm wa) [(gk 0, .long), (gk 1, .int), (gk 2, .int), (gk 3, .int), (gk 4, .int), (gk 5, .int), (gk 6, .int), (gk 7, .int), (gk 8, .int), (gk 9, .boolean), (gk 10, .int)])) (vp_Si (fun r => r = mX5_mapped mh f8 p0)) 0 0 (fun _ => False) := by
  refine cx_of (cc := cX5_mapped) (maxL := 2) (ret := some .int) (by decide) rfl (Nat.le_of_ble_eq_true rfl) ?_
  intro p e s m below meth c ls hx hb hr hts hown hlocks hml hnm hl hB
  have hta : ∀ w ∈ AW, w.before [.ref (ga 0), .int p0].toArray s = true := fun w h => hts w (List.mem_cons_of_mem _ h)
  have hl : lv_has ls 2 [(0, .ref (ga 0)), (1, .int p0)] := hl
  have hown : s.vm.findClass RX5 = some m.cls := hown
  obtain ⟨hP, hK, hN⟩ := hB
  refine lv_aload_n hx hb dX5_mapped_0 rfl (lv_at hl 0 rfl) ?_
  refine va_get (D := (dC, dI)) (ci := 5) (v := .int f8) (C := RX5) (T := TX5) (N := 30) hx hb hta inA_X5 hown hK hP 0 rfl rfl 7 (by decide) (hta _ aw_518) (fun _ h9 => h9) rfl dX5_mapped_1 ?_
  refine lv_if_ne (tgt := 11) hx hb dX5_mapped_4 (by decide) (fun c_4_0 => ?_) (fun c_4_0 => ?_)
  · refine lv_iload_n hx hb dX5_mapped_11 rfl (lv_at hl 1 rfl) ?_
    refine lv_sipush (v := 256) hx hb dX5_mapped_12 (by decide) ?_
    refine cx_callSi (va_runS (As := [.int p0, .int (256 : Int32)]) (rest := []) ⟨hx, hb, hml, hown, hta⟩ (c_X5_isOf l p0 (256 : Int32)) (va_cwS 2 hta (gS aw_611 aw_612 aw_43 aw_613) rfl rfl rfl (by decide +kernel) ⟨Nat.le_of_ble_eq_true rfl, Nat.le_of_ble_eq_true rfl⟩) cx_pre0 rfl rfl hl.1 rfl (lv_room (Nat.le_of_ble_eq_true rfl)) dX5_mapped_15 ⟨Nat.le_of_ble_eq_true rfl, Nat.le_of_ble_eq_true rfl⟩) (fun r hw_2 => ?_)
    subst hw_2
    refine lv_if_eq (tgt := 30) hx hb dX5_mapped_18 (by decide) (fun c_18_2 => ?_) (fun c_18_2 => ?_)
    · refine lv_iconst (v := (-1)) hx hb dX5_mapped_30 (by decide) ?_
      exact W.iret (v := (-1 : Int32)) hx hb hr (fun t ht hW => ⟨(-1 : Int32), rfl, (by unfold mX5_mapped; rewrite [if_neg c_4_0]; rewrite [if_pos c_18_2]; (first | done | rfl)), ht⟩) (fun q h => nomatch h) dX5_mapped_31
    · refine lv_aload_n hx hb dX5_mapped_21 rfl (lv_at hl 0 rfl) ?_
      refine va_get (D := (dC, dI)) (ci := 5) (v := .ref (ga 3)) (C := RX5) (T := TX5) (N := 30) hx hb hta inA_X5 hown hK hP 0 rfl rfl 6 (by decide) (hta _ aw_517) (fun _ h9 => h9) rfl dX5_mapped_22 ?_
      refine lv_iload_n hx hb dX5_mapped_25 rfl (lv_at hl 1 rfl) ?_
      refine va_iald hx hb hK hP 3 2 rfl rfl (of_in c_18_2 rfl) dX5_mapped_26 ?_
      refine lv_goto (tgt := 31) hx hb dX5_mapped_27 (by decide) ?_
      exact W.iret (v := mh p0.toNatClampNeg) hx hb hr (fun t ht hW => ⟨mh p0.toNatClampNeg, rfl, (by unfold mX5_mapped; rewrite [if_neg c_4_0]; rewrite [if_neg c_18_2]; (first | done | rfl)), ht⟩) (fun q h => nomatch h) dX5_mapped_31
  · refine lv_iload_n hx hb dX5_mapped_7 rfl (lv_at hl 1 rfl) ?_
    refine lv_goto (tgt := 31) hx hb dX5_mapped_8 (by decide) ?_
    exact W.iret (v := p0) hx hb hr (fun t ht hW => ⟨p0, rfl, (by unfold mX5_mapped; rewrite [if_pos c_4_0]; (first | done | rfl)), ht⟩) (fun q h => nomatch h) dX5_mapped_31
/-- PageRowsModel.isOutside -/
def mX5_isOutside (L : Nat) (p0 : Int32) : Int32 :=
  if p0 < 0 then
    (1 : Int32)
  else
    if (p0 >>> (((8 : Int32) + ((4 : Int32) * (nI L))) &&& 31)) ≤ 0 then
      (0 : Int32)
    else
      (1 : Int32)
set_option maxHeartbeats 4000000 in
set_option maxRecDepth 100000 in
theorem c_X5_isOutside (l : Launch) (dC : Nat → ClassId) (dI : Nat → Nat → Nat) (ga : Nat → Nat) (gk : Nat → ClassId) (th : Int32) (L : Nat) (N : Nat) (mm : Nat → Int64) (f1 : Int32) (mr : Nat → Int32) (mh : Nat → Int32) (f8 : Int32) (en : Nat) (us : Nat) (eC : Nat → Int32) (eL : Nat → Int32) (eB : Nat → Int32) (eF : Nat → Int32) (eR : Nat → Int32) (eU : Nat → Int32) (eX : Nat → Int32) (f2 : Int32) (f3 : Int32) (f4 : Int32) (f5 : Int32) (f6 : Int32) (f7 : Int32) (f14 : Int32) (ff : Int32) (fa : Int32) (mn : Nat) (lg : Int32) (cm : Int32) (wa : Nat → Int32)  (p0 : Int32)  : Met l yX5_isOutside (wX5_isOutside :: AW) ({ frames := 0, cells := 0, slots := 0, locals := 0 }) (va_Pc [.ref (ga 0), .int p0] (CPre dC dI (MWl ga gk th L N mm f1 mr mh f8 en us eC eL eB eF eR eU eX f2 f3 f4 f5 f6 f7 f14 ff fa mn lg cm wa) [(gk 0, .long), (gk 1, .int), (gk 2, .int), (gk 3, .int), (gk 4, .int), (gk 5, .int), (gk 6, .int), (gk 7, .int), (gk 8, .int), (gk 9, .boolean), (gk 10, .int)])) (vp_Si (fun r => r = mX5_isOutside L p0)) 0 0 (fun _ => False) := by
  refine cx_of (cc := cX5_isOutside) (maxL := 2) (ret := some .boolean) (by decide) rfl (Nat.le_of_ble_eq_true rfl) ?_
  intro p e s m below meth c ls hx hb hr hts hown hlocks hml hnm hl hB
  have hta : ∀ w ∈ AW, w.before [.ref (ga 0), .int p0].toArray s = true := fun w h => hts w (List.mem_cons_of_mem _ h)
  have hl : lv_has ls 2 [(0, .ref (ga 0)), (1, .int p0)] := hl
  have hown : s.vm.findClass RX5 = some m.cls := hown
  obtain ⟨hP, hK, hN⟩ := hB
  refine lv_iload_n hx hb dX5_isOutside_0 rfl (lv_at hl 1 rfl) ?_
  refine lv_if_lt (tgt := 18) hx hb dX5_isOutside_1 (by decide) (fun c_1_0 => ?_) (fun c_1_0 => ?_)
  · refine lv_iconst (v := 1) hx hb dX5_isOutside_18 (by decide) ?_
    refine lv_goto (tgt := 23) hx hb dX5_isOutside_19 (by decide) ?_
    exact W.zret (ty := .boolean) (v := (1 : Int32)) hx hb hr rfl (fun t ht hW => ⟨(1 : Int32), rfl, (by unfold mX5_isOutside; rewrite [if_pos c_1_0]; (first | done | rfl)), ht⟩) (fun q h => nomatch h) dX5_isOutside_23
  · refine lv_iload_n hx hb dX5_isOutside_4 rfl (lv_at hl 1 rfl) ?_
    refine lv_bipush (v := 8) hx hb dX5_isOutside_5 (by decide) ?_
    refine lv_iconst (v := 4) hx hb dX5_isOutside_7 (by decide) ?_
    refine lv_aload_n hx hb dX5_isOutside_8 rfl (lv_at hl 0 rfl) ?_
    refine va_get (D := (dC, dI)) (ci := 5) (v := .int (nI L)) (C := RX5) (T := TX5) (N := 30) hx hb hta inA_X5 hown hK hP 0 rfl rfl 1 (by decide) (hta _ aw_512) (fun _ h9 => h9) rfl dX5_isOutside_9 ?_
    refine lv_imul hx hb dX5_isOutside_12 ?_
    refine lv_iadd hx hb dX5_isOutside_13 ?_
    refine lv_ishr hx hb dX5_isOutside_14 ?_
    refine lv_if_le (tgt := 22) hx hb dX5_isOutside_15 (by decide) (fun c_15_1 => ?_) (fun c_15_1 => ?_)
    · refine lv_iconst (v := 0) hx hb dX5_isOutside_22 (by decide) ?_
      exact W.zret (ty := .boolean) (v := (0 : Int32)) hx hb hr rfl (fun t ht hW => ⟨(0 : Int32), rfl, (by unfold mX5_isOutside; rewrite [if_neg c_1_0]; rewrite [if_pos c_15_1]; (first | done | rfl)), ht⟩) (fun q h => nomatch h) dX5_isOutside_23
    · refine lv_iconst (v := 1) hx hb dX5_isOutside_18 (by decide) ?_
      refine lv_goto (tgt := 23) hx hb dX5_isOutside_19 (by decide) ?_
      exact W.zret (ty := .boolean) (v := (1 : Int32)) hx hb hr rfl (fun t ht hW => ⟨(1 : Int32), rfl, (by unfold mX5_isOutside; rewrite [if_neg c_1_0]; rewrite [if_neg c_15_1]; (first | done | rfl)), ht⟩) (fun q h => nomatch h) dX5_isOutside_23
theorem mX5_isOutside_z (L : Nat) (p0 : Int32) : narrow .boolean (.int (mX5_isOutside L p0)) = .int (mX5_isOutside L p0) := by
  unfold mX5_isOutside
  repeat' split
  all_goals first | rfl | exact rfl
/-- PageRowsModel.fails -/
def mX5_fails (p0 : Int32) (p1 : Int32) : Int32 × Int32 × Int32 :=
  ((0 : Int32), p0, p1)
set_option maxHeartbeats 4000000 in
set_option maxRecDepth 100000 in
theorem c_X5_fails (l : Launch) (dC : Nat → ClassId) (dI : Nat → Nat → Nat) (ga : Nat → Nat) (gk : Nat → ClassId) (th : Int32) (L : Nat) (N : Nat) (mm : Nat → Int64) (f1 : Int32) (mr : Nat → Int32) (mh : Nat → Int32) (f8 : Int32) (en : Nat) (us : Nat) (eC : Nat → Int32) (eL : Nat → Int32) (eB : Nat → Int32) (eF : Nat → Int32) (eR : Nat → Int32) (eU : Nat → Int32) (eX : Nat → Int32) (f2 : Int32) (f3 : Int32) (f4 : Int32) (f5 : Int32) (f6 : Int32) (f7 : Int32) (f14 : Int32) (ff : Int32) (fa : Int32) (mn : Nat) (lg : Int32) (cm : Int32) (wa : Nat → Int32)  (sz : Nat) (p0 : Int32) (p1 : Int32)  : Met l yX5_fails (wX5_fails :: AW) ({ frames := 0, cells := 0, slots := 0, locals := 0 }) (va_Pc [.ref (ga 0), .int p0, .int p1] (CPrQ dC dI (MWl ga gk th L N mm f1 mr mh f8 en us eC eL eB eF eR eU eX f2 f3 f4 f5 f6 f7 f14 ff fa mn lg cm wa) [(gk 0, .long), (gk 1, .int), (gk 2, .int), (gk 3, .int), (gk 4, .int), (gk 5, .int), (gk 6, .int), (gk 7, .int), (gk 8, .int), (gk 9, .boolean), (gk 10, .int)] sz)) (va_Qi (fun (r : Int32) (u : Int32 × Int32) => (r, u) = mX5_fails p0 p1) (fun (u : Int32 × Int32) (t : State) => match u with | (ff', fa') => va_P (dC, dI) vwCl (MWl ga gk th L N mm f1 mr mh f8 en us eC eL eB eF eR eU eX f2 f3 f4 f5 f6 f7 f14 ff' fa' mn lg cm wa) t.heap ∧ va_K (dC, dI) vwCl [(gk 0, .long), (gk 1, .int), (gk 2, .int), (gk 3, .int), (gk 4, .int), (gk 5, .int), (gk 6, .int), (gk 7, .int), (gk 8, .int), (gk 9, .boolean), (gk 10, .int)] t ∧ va_D (va_A (MWl ga gk th L N mm f1 mr mh f8 en us eC eL eB eF eR eU eX f2 f3 f4 f5 f6 f7 f14 ff fa mn lg cm wa) sz) (MWl ga gk th L N mm f1 mr mh f8 en us eC eL eB eF eR eU eX f2 f3 f4 f5 f6 f7 f14 ff' fa' mn lg cm wa)) (va_A (MWl ga gk th L N mm f1 mr mh f8 en us eC eL eB eF eR eU eX f2 f3 f4 f5 f6 f7 f14 ff fa mn lg cm wa) sz)) 0 0 (va_A (MWl ga gk th L N mm f1 mr mh f8 en us eC eL eB eF eR eU eX f2 f3 f4 f5 f6 f7 f14 ff fa mn lg cm wa) sz) := by
  refine cx_of (cc := cX5_fails) (maxL := 3) (ret := some .boolean) (by decide) rfl (Nat.le_of_ble_eq_true rfl) ?_
  intro p e s m below meth c ls hx hb hr hts hown hlocks hml hnm hl hB
  have hta : ∀ w ∈ AW, w.before [.ref (ga 0), .int p0, .int p1].toArray s = true := fun w h => hts w (List.mem_cons_of_mem _ h)
  have hl : lv_has ls 3 [(0, .ref (ga 0)), (1, .int p0), (2, .int p1)] := hl
  have hown : s.vm.findClass RX5 = some m.cls := hown
  obtain ⟨rfl, ⟨hP, hK, hN⟩, hD0⟩ := hB
  have hD := hD0.self (sz := s.heap.size)
  generalize hAe : va_A (MWl ga gk th L N mm f1 mr mh f8 en us eC eL eB eF eR eU eX f2 f3 f4 f5 f6 f7 f14 ff fa mn lg cm wa) s.heap.size = A at hD ⊢
  have hA : ∀ q : Nat, s.heap.size ≤ q → A q := fun q h => by rw [← hAe]; exact Or.inr h
  have hS : va_S A s.heap s.heap [] := va_S.rf
  refine lv_aload_n hx hb dX5_fails_0 rfl (lv_at hl 0 rfl) ?_
  refine lv_iload_n hx hb dX5_fails_1 rfl (lv_at hl 1 rfl) ?_
  refine va_put (D := (dC, dI)) (ci := 5) (v := .int p0) (ty := .int) (C := RX5) (T := TX5) (N := 30) hx hb hta inA_X5 tyX5 tyX5_ok nmX5 hown hK hP hD hS 0 rfl rfl 24 (by decide) (hta _ aw_535) (fun _ h9 => h9) rfl (by decide +kernel) rfl rfl (Nat.le_of_ble_eq_true rfl) dX5_fails_2 (fun H locs hP hD hS => ?_)
  have hP : va_P (dC, dI) vwCl (MWl ga gk th L N mm f1 mr mh f8 en us eC eL eB eF eR eU eX f2 f3 f4 f5 f6 f7 f14 p0 fa mn lg cm wa) H := hP
  have hD : va_D A (MWl ga gk th L N mm f1 mr mh f8 en us eC eL eB eF eR eU eX f2 f3 f4 f5 f6 f7 f14 p0 fa mn lg cm wa) := hD
  refine lv_aload_n hx hb dX5_fails_5 rfl (lv_at hl 0 rfl) ?_
  refine lv_iload_n hx hb dX5_fails_6 rfl (lv_at hl 2 rfl) ?_
  refine va_put (D := (dC, dI)) (ci := 5) (v := .int p1) (ty := .int) (C := RX5) (T := TX5) (N := 30) hx hb hta inA_X5 tyX5 tyX5_ok nmX5 hown hK hP hD hS 0 rfl rfl 25 (by decide) (hta _ aw_536) (fun _ h9 => h9) rfl (by decide +kernel) rfl rfl (Nat.le_of_ble_eq_true rfl) dX5_fails_7 (fun H locs hP hD hS => ?_)
  have hP : va_P (dC, dI) vwCl (MWl ga gk th L N mm f1 mr mh f8 en us eC eL eB eF eR eU eX f2 f3 f4 f5 f6 f7 f14 p0 p1 mn lg cm wa) H := hP
  have hD : va_D A (MWl ga gk th L N mm f1 mr mh f8 en us eC eL eB eF eR eU eX f2 f3 f4 f5 f6 f7 f14 p0 p1 mn lg cm wa) := hD
  refine lv_iconst (v := 0) hx hb dX5_fails_10 (by decide) ?_
  exact W.zret (ty := .boolean) (v := (0 : Int32)) hx hb hr rfl (fun t ht hW => ⟨⟨(0 : Int32), (p0, p1), rfl, (by unfold mX5_fails; (first | done | rfl)), by rw [ht]; exact hP, va_K.moved hW.alike hK, hD⟩, hS.F ht⟩) hS.2.2 dX5_fails_11
/-- PageRowsModel.ends -/
def mX5_ends (L : Nat) (mh : Nat → Int32) (f8 : Int32) (ff : Int32) (fa : Int32) (cm : Int32) (p0 : Int32) (p1 : Int32) (p2 : Int32) : Int32 × Int32 × Int32 × Int32 :=
  if 0 ≤ (mX5_mapped mh f8 (p0 + (mX5_behind p2 p1))) then
    ((1 : Int32), ff, fa, ((256 : Int32) * (mX5_mapped mh f8 (p0 + (mX5_behind p2 p1)))) + (p2 &&& (255 : Int32)))
  else
    match mX5_fails (6 : Int32) (nI L) with
    | (r_4, ff_4, fa_4) =>
      (r_4, ff_4, fa_4, cm)
set_option maxHeartbeats 4000000 in
set_option maxRecDepth 100000 in
theorem c_X5_ends (l : Launch) (dC : Nat → ClassId) (dI : Nat → Nat → Nat) (ga : Nat → Nat) (gk : Nat → ClassId) (th : Int32) (L : Nat) (N : Nat) (mm : Nat → Int64) (f1 : Int32) (mr : Nat → Int32) (mh : Nat → Int32) (f8 : Int32) (en : Nat) (us : Nat) (eC : Nat → Int32) (eL : Nat → Int32) (eB : Nat → Int32) (eF : Nat → Int32) (eR : Nat → Int32) (eU : Nat → Int32) (eX : Nat → Int32) (f2 : Int32) (f3 : Int32) (f4 : Int32) (f5 : Int32) (f6 : Int32) (f7 : Int32) (f14 : Int32) (ff : Int32) (fa : Int32) (mn : Nat) (lg : Int32) (cm : Int32) (wa : Nat → Int32)  (sz : Nat) (p0 : Int32) (p1 : Int32) (p2 : Int32)  : Met l yX5_ends (wX5_ends :: AW) ({ frames := 2, cells := 0, slots := 0, locals := 42 }) (va_Pc [.ref (ga 0), .int p0, .int p1, .int p2] (CPrQ dC dI (MWl ga gk th L N mm f1 mr mh f8 en us eC eL eB eF eR eU eX f2 f3 f4 f5 f6 f7 f14 ff fa mn lg cm wa) [(gk 0, .long), (gk 1, .int), (gk 2, .int), (gk 3, .int), (gk 4, .int), (gk 5, .int), (gk 6, .int), (gk 7, .int), (gk 8, .int), (gk 9, .boolean), (gk 10, .int)] sz)) (va_Qi (fun (r : Int32) (u : Int32 × Int32 × Int32) => (r, u) = mX5_ends L mh f8 ff fa cm p0 p1 p2) (fun (u : Int32 × Int32 × Int32) (t : State) => match u with | (ff', fa', cm') => va_P (dC, dI) vwCl (MWl ga gk th L N mm f1 mr mh f8 en us eC eL eB eF eR eU eX f2 f3 f4 f5 f6 f7 f14 ff' fa' mn lg cm' wa) t.heap ∧ va_K (dC, dI) vwCl [(gk 0, .long), (gk 1, .int), (gk 2, .int), (gk 3, .int), (gk 4, .int), (gk 5, .int), (gk 6, .int), (gk 7, .int), (gk 8, .int), (gk 9, .boolean), (gk 10, .int)] t ∧ va_D (va_A (MWl ga gk th L N mm f1 mr mh f8 en us eC eL eB eF eR eU eX f2 f3 f4 f5 f6 f7 f14 ff fa mn lg cm wa) sz) (MWl ga gk th L N mm f1 mr mh f8 en us eC eL eB eF eR eU eX f2 f3 f4 f5 f6 f7 f14 ff' fa' mn lg cm' wa)) (va_A (MWl ga gk th L N mm f1 mr mh f8 en us eC eL eB eF eR eU eX f2 f3 f4 f5 f6 f7 f14 ff fa mn lg cm wa) sz)) 0 0 (va_A (MWl ga gk th L N mm f1 mr mh f8 en us eC eL eB eF eR eU eX f2 f3 f4 f5 f6 f7 f14 ff fa mn lg cm wa) sz) := by
  refine cx_of (cc := cX5_ends) (maxL := 5) (ret := some .boolean) (by decide) rfl (Nat.le_of_ble_eq_true rfl) ?_
  intro p e s m below meth c ls hx hb hr hts hown hlocks hml hnm hl hB
  have hta : ∀ w ∈ AW, w.before [.ref (ga 0), .int p0, .int p1, .int p2].toArray s = true := fun w h => hts w (List.mem_cons_of_mem _ h)
  have hl : lv_has ls 5 [(0, .ref (ga 0)), (1, .int p0), (2, .int p1), (3, .int p2)] := hl
  have hown : s.vm.findClass RX5 = some m.cls := hown
  obtain ⟨rfl, ⟨hP, hK, hN⟩, hD0⟩ := hB
  have hD := hD0.self (sz := s.heap.size)
  generalize hAe : va_A (MWl ga gk th L N mm f1 mr mh f8 en us eC eL eB eF eR eU eX f2 f3 f4 f5 f6 f7 f14 ff fa mn lg cm wa) s.heap.size = A at hD ⊢
  have hA : ∀ q : Nat, s.heap.size ≤ q → A q := fun q h => by rw [← hAe]; exact Or.inr h
  have hS : va_S A s.heap s.heap [] := va_S.rf
  refine lv_aload_n hx hb dX5_ends_0 rfl (lv_at hl 0 rfl) ?_
  refine lv_iload_n hx hb dX5_ends_1 rfl (lv_at hl 1 rfl) ?_
  refine lv_iload_n hx hb dX5_ends_2 rfl (lv_at hl 3 rfl) ?_
  refine lv_iload_n hx hb dX5_ends_3 rfl (lv_at hl 2 rfl) ?_
  refine cx_callSi (va_runS (As := [.int p2, .int p1]) (rest := [.int p0, .ref (ga 0)]) ⟨hx, hb, hml, hown, hta⟩ (c_X5_behind l p2 p1) (va_cwS 2 hta (gS aw_674 aw_675 aw_43 aw_676) rfl rfl rfl (by decide +kernel) ⟨Nat.le_of_ble_eq_true rfl, Nat.le_of_ble_eq_true rfl⟩) cx_pre0 rfl rfl hl.1 rfl (lv_room (Nat.le_of_ble_eq_true rfl)) dX5_ends_4 ⟨Nat.le_of_ble_eq_true rfl, Nat.le_of_ble_eq_true rfl⟩) (fun r hw_1 => ?_)
  subst hw_1
  refine lv_iadd hx hb dX5_ends_7 ?_
  refine cx_callSi (va_runV (As := [.int (p0 + (mX5_behind p2 p1))]) (rest := []) ⟨hx, hb, hml, hown, hta⟩ (c_X5_mapped l dC dI ga gk th L N mm f1 mr mh f8 en us eC eL eB eF eR eU eX f2 f3 f4 f5 f6 f7 f14 ff fa mn lg cm wa (p0 + (mX5_behind p2 p1))) (cwV 1 hta (gV aw_677 aw_679 aw_28 aw_43 aw_680) rfl rfl rfl (by decide +kernel) ⟨Nat.le_of_ble_eq_true rfl, Nat.le_of_ble_eq_true rfl⟩) (cx_preVS hK hP hN (va_recv hK hP (ci := 5) (q0 := 0) rfl rfl)) rfl rfl hl.1 rfl (lv_room (Nat.le_of_ble_eq_true rfl)) dX5_ends_8 ⟨Nat.le_of_ble_eq_true rfl, Nat.le_of_ble_eq_true rfl⟩) (fun r hw_2 => ?_)
  subst hw_2
  refine lv_istore (lv' := [(4, .int (mX5_mapped mh f8 (p0 + (mX5_behind p2 p1)))), (0, .ref (ga 0)), (1, .int p0), (2, .int p1), (3, .int p2)]) hx hb dX5_ends_11 hl (by decide) rfl (fun ls hl => ?_)
  refine lv_iload hx hb dX5_ends_13 (lv_at hl 0 rfl) ?_
  refine lv_if_ge (tgt := 29) hx hb dX5_ends_15 (by decide) (fun c_15_2 => ?_) (fun c_15_2 => ?_)
  · refine lv_aload_n hx hb dX5_ends_29 rfl (lv_at hl 1 rfl) ?_
    refine lv_sipush (v := 256) hx hb dX5_ends_30 (by decide) ?_
    refine lv_iload hx hb dX5_ends_33 (lv_at hl 0 rfl) ?_
    refine lv_imul hx hb dX5_ends_35 ?_
    refine lv_iload_n hx hb dX5_ends_36 rfl (lv_at hl 4 rfl) ?_
    refine lv_sipush (v := 255) hx hb dX5_ends_37 (by decide) ?_
    refine lv_iand hx hb dX5_ends_40 ?_
    refine lv_iadd hx hb dX5_ends_41 ?_
    refine va_put (D := (dC, dI)) (ci := 5) (v := .int (((256 : Int32) * (mX5_mapped mh f8 (p0 + (mX5_behind p2 p1)))) + (p2 &&& (255 : Int32)))) (ty := .int) (C := RX5) (T := TX5) (N := 30) hx hb hta inA_X5 tyX5 tyX5_ok nmX5 hown hK hP hD hS 0 rfl rfl 28 (by decide) (hta _ aw_539) (fun _ h9 => h9) rfl (by decide +kernel) rfl rfl (Nat.le_of_ble_eq_true rfl) dX5_ends_42 (fun H locs hP hD hS => ?_)
    have hP : va_P (dC, dI) vwCl (MWl ga gk th L N mm f1 mr mh f8 en us eC eL eB eF eR eU eX f2 f3 f4 f5 f6 f7 f14 ff fa mn lg (((256 : Int32) * (mX5_mapped mh f8 (p0 + (mX5_behind p2 p1)))) + (p2 &&& (255 : Int32))) wa) H := hP
    have hD : va_D A (MWl ga gk th L N mm f1 mr mh f8 en us eC eL eB eF eR eU eX f2 f3 f4 f5 f6 f7 f14 ff fa mn lg (((256 : Int32) * (mX5_mapped mh f8 (p0 + (mX5_behind p2 p1)))) + (p2 &&& (255 : Int32))) wa) := hD
    refine lv_iconst (v := 1) hx hb dX5_ends_45 (by decide) ?_
    exact W.zret (ty := .boolean) (v := (1 : Int32)) hx hb hr rfl (fun t ht hW => ⟨⟨(1 : Int32), (ff, fa, ((256 : Int32) * (mX5_mapped mh f8 (p0 + (mX5_behind p2 p1)))) + (p2 &&& (255 : Int32))), rfl, (by unfold mX5_ends; rewrite [if_pos c_15_2]; (first | done | rfl)), by rw [ht]; exact hP, va_K.moved hW.alike hK, hD⟩, hS.F ht⟩) hS.2.2 dX5_ends_46
  · refine lv_aload_n hx hb dX5_ends_18 rfl (lv_at hl 1 rfl) ?_
    refine lv_bipush (v := 6) hx hb dX5_ends_19 (by decide) ?_
    refine lv_aload_n hx hb dX5_ends_21 rfl (lv_at hl 1 rfl) ?_
    refine va_get (D := (dC, dI)) (ci := 5) (v := .int (nI L)) (C := RX5) (T := TX5) (N := 30) hx hb hta inA_X5 hown hK hP 0 rfl rfl 1 (by decide) (hta _ aw_512) (fun _ h9 => h9) rfl dX5_ends_22 ?_
    have hFc : ∀ q, va_A (MWl ga gk th L N mm f1 mr mh f8 en us eC eL eB eF eR eU eX f2 f3 f4 f5 f6 f7 f14 ff fa mn lg cm wa) s.heap.size q → A q := cx_free hD hS hA
    refine va_calli (va_runV (As := [.int (6 : Int32), .int (nI L)]) (rest := []) ⟨hx, hb, hml, hown, hta⟩ (c_X5_fails l dC dI ga gk th L N mm f1 mr mh f8 en us eC eL eB eF eR eU eX f2 f3 f4 f5 f6 f7 f14 ff fa mn lg cm wa s.heap.size (6 : Int32) (nI L)) (cwV 2 hta (gV aw_666 aw_668 aw_26 aw_43 aw_669) rfl rfl rfl (by decide +kernel) ⟨Nat.le_of_ble_eq_true rfl, Nat.le_of_ble_eq_true rfl⟩) (cx_preVQ hK hP hN (va_recv hK hP (ci := 5) (q0 := 0) rfl rfl) hD) rfl rfl hl.1 rfl (lv_room (Nat.le_of_ble_eq_true rfl)) dX5_ends_25 ⟨Nat.le_of_ble_eq_true rfl, Nat.le_of_ble_eq_true rfl⟩) hS (fun q _ h => hFc q h) hFc (fun r_4 u t9 H1 locs ht hvm hw_4 hB hz1 hk1 hS => ?_)
    obtain ⟨ff_4, fa_4⟩ := u
    obtain ⟨hP, hK1, hD1⟩ := hB
    rw [ht] at hP
    have hD := hD1.weaken (fun _ _ _ h => hFc _ h)
    clear hFc hz1 hk1 hK1 hD1 ht hvm
    generalize H1 = H at hP hS ⊢
    have hP : va_P (dC, dI) vwCl (MWl ga gk th L N mm f1 mr mh f8 en us eC eL eB eF eR eU eX f2 f3 f4 f5 f6 f7 f14 ff_4 fa_4 mn lg cm wa) H := hP
    have hD : va_D A (MWl ga gk th L N mm f1 mr mh f8 en us eC eL eB eF eR eU eX f2 f3 f4 f5 f6 f7 f14 ff_4 fa_4 mn lg cm wa) := hD
    have hzf : narrow .boolean (.int r_4) = .int r_4 := by have := hw_4; unfold mX5_fails at this; cases this; rfl
    exact W.zret (ty := .boolean) (v := r_4) hx hb hr hzf (fun t ht hW => ⟨⟨r_4, (ff_4, fa_4, cm), rfl, (by unfold mX5_ends; rewrite [if_neg c_15_2]; rewrite [← hw_4]; (try dsimp only); (first | done | rfl)), by rw [ht]; exact hP, va_K.moved hW.alike hK, hD⟩, hS.F ht⟩) hS.2.2 dX5_ends_28
end
section
theorem cx_wordin2 {h i : Int32} (h0 : 0 ≤ h) (h1 : h < (256 : Int32)) : vp_in (((16 : Int32) * h) + (i &&& (15 : Int32))) 4096 := by
  have h2 : ¬ h < 0 := fun q => absurd (Int32.lt_of_lt_of_le q h0) Int32.lt_irrefl
  obtain ⟨j, hj, rfl⟩ := vp_in_of (cx_inl (n := 256) h2 h1 rfl) (by decide)
  obtain ⟨r, hr, er⟩ := pk_andE i (m := (15 : Int32)) 4 (by decide)
  rw [er, show (16 : Int32) = nI 16 from rfl, pk_mul, nI_add]
  exact vp_in_nI (by omega) (by decide)
theorem cx_pow_ne {b : Nat} (hb : b ≤ 3) : ¬ ((1 : Int32) <<< (((4 : Int32) * (nI b)) &&& 31)) = 0 := by
  rcases (show b = 0 ∨ b = 1 ∨ b = 2 ∨ b = 3 by omega) with rfl | rfl | rfl | rfl <;> decide
/-- PageRowsModel.goes -/
def mX5_goes (L : Nat) (mm : Nat → Int64) (mh : Nat → Int32) (f8 : Int32) (ff : Int32) (fa : Int32) (mn : Nat) (wa : Nat → Int32) (p0 : Int32) (p1 : Nat) (p2 : Int32) (p3 : Int32) : Int32 × Int32 × Int32 × Nat × Int32 × (Nat → Int32) :=
  if 0 ≤ (mX5_mapped mh f8 p0) then
    if (mX5_mapped mh f8 p0) < (256 : Int32) then
      if (lg_cmp ((mm (((16 : Int32) * (mX5_mapped mh f8 p0)) + ((p2 >>> (((8 : Int32) + ((4 : Int32) * (nI (L - 1 - p1)))) &&& 31)) &&& (15 : Int32))).toNatClampNeg) &&& (1 : Int64)) (0 : Int64)) = 0 then
        match mX5_fails (2 : Int32) (nI p1) with
        | (r_30, ff_30, fa_30) =>
          (r_30, ff_30, fa_30, (mn + 1), (-1 : Int32), upd wa mn (((16 : Int32) * (mX5_mapped mh f8 p0)) + ((p2 >>> (((8 : Int32) + ((4 : Int32) * (nI (L - 1 - p1)))) &&& 31)) &&& (15 : Int32))))
      else
        if (lg_cmp ((mm (((16 : Int32) * (mX5_mapped mh f8 p0)) + ((p2 >>> (((8 : Int32) + ((4 : Int32) * (nI (L - 1 - p1)))) &&& 31)) &&& (15 : Int32))).toNatClampNeg) &&& (32 : Int64)) (0 : Int64)) = 0 then
          if (nI (L - 1 - p1)) ≤ 0 then
            if (mX5_does (mX5_rightsOf (mm (((16 : Int32) * (mX5_mapped mh f8 p0)) + ((p2 >>> (((8 : Int32) + ((4 : Int32) * (nI (L - 1 - p1)))) &&& 31)) &&& (15 : Int32))).toNatClampNeg)) p3) = 0 then
              match mX5_fails (3 : Int32) (nI p1) with
              | (r_11, ff_11, fa_11) =>
                (r_11, ff_11, fa_11, (mn + 1), (-1 : Int32), upd wa mn (((16 : Int32) * (mX5_mapped mh f8 p0)) + ((p2 >>> (((8 : Int32) + ((4 : Int32) * (nI (L - 1 - p1)))) &&& 31)) &&& (15 : Int32))))
            else
              ((1 : Int32), ff, fa, (mn + 1), nI (L - 1 - p1), upd wa mn (((16 : Int32) * (mX5_mapped mh f8 p0)) + ((p2 >>> (((8 : Int32) + ((4 : Int32) * (nI (L - 1 - p1)))) &&& 31)) &&& (15 : Int32))))
          else
            ((1 : Int32), ff, fa, (mn + 1), (-1 : Int32), upd wa mn (((16 : Int32) * (mX5_mapped mh f8 p0)) + ((p2 >>> (((8 : Int32) + ((4 : Int32) * (nI (L - 1 - p1)))) &&& 31)) &&& (15 : Int32))))
        else
          if (nI (L - 1 - p1)) ≤ 0 then
            if (mX5_does (mX5_rightsOf (mm (((16 : Int32) * (mX5_mapped mh f8 p0)) + ((p2 >>> (((8 : Int32) + ((4 : Int32) * (nI (L - 1 - p1)))) &&& 31)) &&& (15 : Int32))).toNatClampNeg)) p3) = 0 then
              match mX5_fails (3 : Int32) (nI p1) with
              | (r_19, ff_19, fa_19) =>
                (r_19, ff_19, fa_19, (mn + 1), (-1 : Int32), upd wa mn (((16 : Int32) * (mX5_mapped mh f8 p0)) + ((p2 >>> (((8 : Int32) + ((4 : Int32) * (nI (L - 1 - p1)))) &&& 31)) &&& (15 : Int32))))
            else
              ((1 : Int32), ff, fa, (mn + 1), nI (L - 1 - p1), upd wa mn (((16 : Int32) * (mX5_mapped mh f8 p0)) + ((p2 >>> (((8 : Int32) + ((4 : Int32) * (nI (L - 1 - p1)))) &&& 31)) &&& (15 : Int32))))
          else
            if ((mX5_frameOf (mm (((16 : Int32) * (mX5_mapped mh f8 p0)) + ((p2 >>> (((8 : Int32) + ((4 : Int32) * (nI (L - 1 - p1)))) &&& 31)) &&& (15 : Int32))).toNatClampNeg)) - (mX5_frameOf (mm (((16 : Int32) * (mX5_mapped mh f8 p0)) + ((p2 >>> (((8 : Int32) + ((4 : Int32) * (nI (L - 1 - p1)))) &&& 31)) &&& (15 : Int32))).toNatClampNeg)) / ((1 : Int32) <<< (((4 : Int32) * (nI (L - 1 - p1))) &&& 31)) * ((1 : Int32) <<< (((4 : Int32) * (nI (L - 1 - p1))) &&& 31))) = 0 then
              if (mX5_does (mX5_rightsOf (mm (((16 : Int32) * (mX5_mapped mh f8 p0)) + ((p2 >>> (((8 : Int32) + ((4 : Int32) * (nI (L - 1 - p1)))) &&& 31)) &&& (15 : Int32))).toNatClampNeg)) p3) = 0 then
                match mX5_fails (3 : Int32) (nI p1) with
                | (r_28, ff_28, fa_28) =>
                  (r_28, ff_28, fa_28, (mn + 1), (-1 : Int32), upd wa mn (((16 : Int32) * (mX5_mapped mh f8 p0)) + ((p2 >>> (((8 : Int32) + ((4 : Int32) * (nI (L - 1 - p1)))) &&& 31)) &&& (15 : Int32))))
              else
                ((1 : Int32), ff, fa, (mn + 1), nI (L - 1 - p1), upd wa mn (((16 : Int32) * (mX5_mapped mh f8 p0)) + ((p2 >>> (((8 : Int32) + ((4 : Int32) * (nI (L - 1 - p1)))) &&& 31)) &&& (15 : Int32))))
            else
              match mX5_fails (4 : Int32) (nI p1) with
              | (r_29, ff_29, fa_29) =>
                (r_29, ff_29, fa_29, (mn + 1), (-1 : Int32), upd wa mn (((16 : Int32) * (mX5_mapped mh f8 p0)) + ((p2 >>> (((8 : Int32) + ((4 : Int32) * (nI (L - 1 - p1)))) &&& 31)) &&& (15 : Int32))))
    else
      match mX5_fails (5 : Int32) (nI p1) with
      | (r_31, ff_31, fa_31) =>
        (r_31, ff_31, fa_31, mn, (-1 : Int32), wa)
  else
    match mX5_fails (6 : Int32) (nI p1) with
    | (r_32, ff_32, fa_32) =>
      (r_32, ff_32, fa_32, mn, (-1 : Int32), wa)
set_option maxHeartbeats 4000000 in
set_option maxRecDepth 100000 in
theorem c_X5_goes (l : Launch) (dC : Nat → ClassId) (dI : Nat → Nat → Nat) (ga : Nat → Nat) (gk : Nat → ClassId) (th : Int32) (L : Nat) (N : Nat) (mm : Nat → Int64) (f1 : Int32) (mr : Nat → Int32) (mh : Nat → Int32) (f8 : Int32) (en : Nat) (us : Nat) (eC : Nat → Int32) (eL : Nat → Int32) (eB : Nat → Int32) (eF : Nat → Int32) (eR : Nat → Int32) (eU : Nat → Int32) (eX : Nat → Int32) (f2 : Int32) (f3 : Int32) (f4 : Int32) (f5 : Int32) (f6 : Int32) (f7 : Int32) (f14 : Int32) (ff : Int32) (fa : Int32) (mn : Nat) (lg : Int32) (cm : Int32) (wa : Nat → Int32)  (sz : Nat) (p0 : Int32) (p1 : Nat) (p2 : Int32) (p3 : Int32) (hL1 : 1 ≤ L) (hL4 : L ≤ 4) (hp1 : p1 < L) (hmn : mn < 4) : Met l yX5_goes (wX5_goes :: AW) ({ frames := 2, cells := 0, slots := 0, locals := 42 }) (va_Pc [.ref (ga 0), .int p0, .int (nI p1), .int p2, .int p3] (CPrQ dC dI (MWl ga gk th L N mm f1 mr mh f8 en us eC eL eB eF eR eU eX f2 f3 f4 f5 f6 f7 f14 ff fa mn lg cm wa) [(gk 0, .long), (gk 1, .int), (gk 2, .int), (gk 3, .int), (gk 4, .int), (gk 5, .int), (gk 6, .int), (gk 7, .int), (gk 8, .int), (gk 9, .boolean), (gk 10, .int)] sz)) (va_Qi (fun (r : Int32) (u : Int32 × Int32 × Nat × Int32 × (Nat → Int32)) => (r, u) = mX5_goes L mm mh f8 ff fa mn wa p0 p1 p2 p3) (fun (u : Int32 × Int32 × Nat × Int32 × (Nat → Int32)) (t : State) => match u with | (ff', fa', mn', lg', wa') => va_P (dC, dI) vwCl (MWl ga gk th L N mm f1 mr mh f8 en us eC eL eB eF eR eU eX f2 f3 f4 f5 f6 f7 f14 ff' fa' mn' lg' cm wa') t.heap ∧ va_K (dC, dI) vwCl [(gk 0, .long), (gk 1, .int), (gk 2, .int), (gk 3, .int), (gk 4, .int), (gk 5, .int), (gk 6, .int), (gk 7, .int), (gk 8, .int), (gk 9, .boolean), (gk 10, .int)] t ∧ va_D (va_A (MWl ga gk th L N mm f1 mr mh f8 en us eC eL eB eF eR eU eX f2 f3 f4 f5 f6 f7 f14 ff fa mn lg cm wa) sz) (MWl ga gk th L N mm f1 mr mh f8 en us eC eL eB eF eR eU eX f2 f3 f4 f5 f6 f7 f14 ff' fa' mn' lg' cm wa')) (va_A (MWl ga gk th L N mm f1 mr mh f8 en us eC eL eB eF eR eU eX f2 f3 f4 f5 f6 f7 f14 ff fa mn lg cm wa) sz)) 0 0 (va_A (MWl ga gk th L N mm f1 mr mh f8 en us eC eL eB eF eR eU eX f2 f3 f4 f5 f6 f7 f14 ff fa mn lg cm wa) sz) := by
  refine cx_of (cc := cX5_goes) (maxL := 11) (ret := some .boolean) (by decide) rfl (Nat.le_of_ble_eq_true rfl) ?_
  intro p e s m below meth c ls hx hb hr hts hown hlocks hml hnm hl hB
  have hta : ∀ w ∈ AW, w.before [.ref (ga 0), .int p0, .int (nI p1), .int p2, .int p3].toArray s = true := fun w h => hts w (List.mem_cons_of_mem _ h)
  have hl : lv_has ls 11 [(0, .ref (ga 0)), (1, .int p0), (2, .int (nI p1)), (3, .int p2), (4, .int p3)] := hl
  have hown : s.vm.findClass RX5 = some m.cls := hown
  obtain ⟨rfl, ⟨hP, hK, hN⟩, hD0⟩ := hB
  have hD := hD0.self (sz := s.heap.size)
  generalize hAe : va_A (MWl ga gk th L N mm f1 mr mh f8 en us eC eL eB eF eR eU eX f2 f3 f4 f5 f6 f7 f14 ff fa mn lg cm wa) s.heap.size = A at hD ⊢
  have hA : ∀ q : Nat, s.heap.size ≤ q → A q := fun q h => by rw [← hAe]; exact Or.inr h
  have hS : va_S A s.heap s.heap [] := va_S.rf
  refine lv_aload_n hx hb dX5_goes_0 rfl (lv_at hl 0 rfl) ?_
  refine lv_iconst (v := (-1)) hx hb dX5_goes_1 (by decide) ?_
  refine va_put (D := (dC, dI)) (ci := 5) (v := .int (-1 : Int32)) (ty := .int) (C := RX5) (T := TX5) (N := 30) hx hb hta inA_X5 tyX5 tyX5_ok nmX5 hown hK hP hD hS 0 rfl rfl 27 (by decide) (hta _ aw_538) (fun _ h9 => h9) rfl (by decide +kernel) rfl rfl (Nat.le_of_ble_eq_true rfl) dX5_goes_2 (fun H locs hP hD hS => ?_)
  have hP : va_P (dC, dI) vwCl (MWl ga gk th L N mm f1 mr mh f8 en us eC eL eB eF eR eU eX f2 f3 f4 f5 f6 f7 f14 ff fa mn (-1 : Int32) cm wa) H := hP
  have hD : va_D A (MWl ga gk th L N mm f1 mr mh f8 en us eC eL eB eF eR eU eX f2 f3 f4 f5 f6 f7 f14 ff fa mn (-1 : Int32) cm wa) := hD
  refine lv_aload_n hx hb dX5_goes_5 rfl (lv_at hl 0 rfl) ?_
  refine lv_iload_n hx hb dX5_goes_6 rfl (lv_at hl 1 rfl) ?_
  refine cx_callSi (va_runV (As := [.int p0]) (rest := []) ⟨hx, hb, hml, hown, hta⟩ (c_X5_mapped l dC dI ga gk th L N mm f1 mr mh f8 en us eC eL eB eF eR eU eX f2 f3 f4 f5 f6 f7 f14 ff fa mn (-1 : Int32) cm wa p0) (cwV 1 hta (gV aw_677 aw_679 aw_28 aw_43 aw_680) rfl rfl rfl (by decide +kernel) ⟨Nat.le_of_ble_eq_true rfl, Nat.le_of_ble_eq_true rfl⟩) (cx_preVS hK hP hN (va_recv hK hP (ci := 5) (q0 := 0) rfl rfl)) rfl rfl hl.1 rfl (lv_room (Nat.le_of_ble_eq_true rfl)) dX5_goes_7 ⟨Nat.le_of_ble_eq_true rfl, Nat.le_of_ble_eq_true rfl⟩) (fun r hw_1 => ?_)
  subst hw_1
  refine lv_istore (lv' := [(5, .int (mX5_mapped mh f8 p0)), (0, .ref (ga 0)), (1, .int p0), (2, .int (nI p1)), (3, .int p2), (4, .int p3)]) hx hb dX5_goes_10 hl (by decide) rfl (fun ls hl => ?_)
  refine lv_iload hx hb dX5_goes_12 (lv_at hl 0 rfl) ?_
  refine lv_if_ge (tgt := 25) hx hb dX5_goes_14 (by decide) (fun c_14_1 => ?_) (fun c_14_1 => ?_)
  · refine lv_iload hx hb dX5_goes_25 (lv_at hl 0 rfl) ?_
    refine lv_sipush (v := 256) hx hb dX5_goes_27 (by decide) ?_
    refine lv_icmp_lt (tgt := 40) hx hb dX5_goes_30 (by decide) (fun c_30_2 => ?_) (fun c_30_2 => ?_)
    · refine lv_aload_n hx hb dX5_goes_40 rfl (lv_at hl 1 rfl) ?_
      refine va_get (D := (dC, dI)) (ci := 5) (v := .int (nI L)) (C := RX5) (T := TX5) (N := 30) hx hb hta inA_X5 hown hK hP 0 rfl rfl 1 (by decide) (hta _ aw_512) (fun _ h9 => h9) rfl dX5_goes_41 ?_
      refine lv_iconst (v := 1) hx hb dX5_goes_44 (by decide) ?_
      refine lv_isub hx hb dX5_goes_45 ?_
      rw [show (nI L) - (1 : Int32) = nI (L - 1) from pk_sub hL1]
      refine lv_iload_n hx hb dX5_goes_46 rfl (lv_at hl 3 rfl) ?_
      refine lv_isub hx hb dX5_goes_47 ?_
      rw [show (nI (L - 1)) - (nI p1) = nI (L - 1 - p1) from pk_sub (show p1 ≤ L - 1 by omega)]
      refine lv_istore (lv' := [(6, .int (nI (L - 1 - p1))), (5, .int (mX5_mapped mh f8 p0)), (0, .ref (ga 0)), (1, .int p0), (2, .int (nI p1)), (3, .int p2), (4, .int p3)]) hx hb dX5_goes_48 hl (by decide) rfl (fun ls hl => ?_)
      refine lv_bipush (v := 16) hx hb dX5_goes_50 (by decide) ?_
      refine lv_iload hx hb dX5_goes_52 (lv_at hl 1 rfl) ?_
      refine lv_imul hx hb dX5_goes_54 ?_
      refine lv_iload_n hx hb dX5_goes_55 rfl (lv_at hl 5 rfl) ?_
      refine lv_bipush (v := 8) hx hb dX5_goes_56 (by decide) ?_
      refine lv_iconst (v := 4) hx hb dX5_goes_58 (by decide) ?_
      refine lv_iload hx hb dX5_goes_59 (lv_at hl 0 rfl) ?_
      refine lv_imul hx hb dX5_goes_61 ?_
      refine lv_iadd hx hb dX5_goes_62 ?_
      refine lv_ishr hx hb dX5_goes_63 ?_
      refine lv_bipush (v := 15) hx hb dX5_goes_64 (by decide) ?_
      refine lv_iand hx hb dX5_goes_66 ?_
      refine lv_iadd hx hb dX5_goes_67 ?_
      refine lv_istore (lv' := [(7, .int (((16 : Int32) * (mX5_mapped mh f8 p0)) + ((p2 >>> (((8 : Int32) + ((4 : Int32) * (nI (L - 1 - p1)))) &&& 31)) &&& (15 : Int32)))), (6, .int (nI (L - 1 - p1))), (5, .int (mX5_mapped mh f8 p0)), (0, .ref (ga 0)), (1, .int p0), (2, .int (nI p1)), (3, .int p2), (4, .int p3)]) hx hb dX5_goes_68 hl (by decide) rfl (fun ls hl => ?_)
      refine lv_aload_n hx hb dX5_goes_70 rfl (lv_at hl 3 rfl) ?_
      refine va_get (D := (dC, dI)) (ci := 5) (v := .ref (ga 11)) (C := RX5) (T := TX5) (N := 30) hx hb hta inA_X5 hown hK hP 0 rfl rfl 29 (by decide) (hta _ aw_540) (fun _ h9 => h9) rfl dX5_goes_71 ?_
      refine lv_aload_n hx hb dX5_goes_74 rfl (lv_at hl 3 rfl) ?_
      refine va_get (D := (dC, dI)) (ci := 5) (v := .int (nI mn)) (C := RX5) (T := TX5) (N := 30) hx hb hta inA_X5 hown hK hP 0 rfl rfl 26 (by decide) (hta _ aw_537) (fun _ h9 => h9) rfl dX5_goes_75 ?_
      refine lv_iload hx hb dX5_goes_78 (lv_at hl 0 rfl) ?_
      refine va_iast hx hb hK hP hD hS 11 10 rfl rfl (vp_in_nI hmn (by decide)) dX5_goes_80 (fun H locs hP hD hS => ?_)
      rw [nI_clamp (show mn < 2 ^ 31 by omega)] at hP hD
      have hP : va_P (dC, dI) vwCl (MWl ga gk th L N mm f1 mr mh f8 en us eC eL eB eF eR eU eX f2 f3 f4 f5 f6 f7 f14 ff fa mn (-1 : Int32) cm (upd wa mn (((16 : Int32) * (mX5_mapped mh f8 p0)) + ((p2 >>> (((8 : Int32) + ((4 : Int32) * (nI (L - 1 - p1)))) &&& 31)) &&& (15 : Int32))))) H := hP
      have hD : va_D A (MWl ga gk th L N mm f1 mr mh f8 en us eC eL eB eF eR eU eX f2 f3 f4 f5 f6 f7 f14 ff fa mn (-1 : Int32) cm (upd wa mn (((16 : Int32) * (mX5_mapped mh f8 p0)) + ((p2 >>> (((8 : Int32) + ((4 : Int32) * (nI (L - 1 - p1)))) &&& 31)) &&& (15 : Int32))))) := hD
      refine lv_aload_n hx hb dX5_goes_81 rfl (lv_at hl 3 rfl) ?_
      refine lv_dup hx hb dX5_goes_82 rfl ?_
      refine va_get (D := (dC, dI)) (ci := 5) (v := .int (nI mn)) (C := RX5) (T := TX5) (N := 30) hx hb hta inA_X5 hown hK hP 0 rfl rfl 26 (by decide) (hta _ aw_537) (fun _ h9 => h9) rfl dX5_goes_83 ?_
      refine lv_iconst (v := 1) hx hb dX5_goes_86 (by decide) ?_
      refine lv_iadd hx hb dX5_goes_87 ?_
      rw [show (nI mn) + (1 : Int32) = nI (mn + 1) from nI_add mn 1]
      refine va_put (D := (dC, dI)) (ci := 5) (v := .int (nI (mn + 1))) (ty := .int) (C := RX5) (T := TX5) (N := 30) hx hb hta inA_X5 tyX5 tyX5_ok nmX5 hown hK hP hD hS 0 rfl rfl 26 (by decide) (hta _ aw_537) (fun _ h9 => h9) rfl (by decide +kernel) rfl rfl (Nat.le_of_ble_eq_true rfl) dX5_goes_88 (fun H locs hP hD hS => ?_)
      have hP : va_P (dC, dI) vwCl (MWl ga gk th L N mm f1 mr mh f8 en us eC eL eB eF eR eU eX f2 f3 f4 f5 f6 f7 f14 ff fa (mn + 1) (-1 : Int32) cm (upd wa mn (((16 : Int32) * (mX5_mapped mh f8 p0)) + ((p2 >>> (((8 : Int32) + ((4 : Int32) * (nI (L - 1 - p1)))) &&& 31)) &&& (15 : Int32))))) H := hP
      have hD : va_D A (MWl ga gk th L N mm f1 mr mh f8 en us eC eL eB eF eR eU eX f2 f3 f4 f5 f6 f7 f14 ff fa (mn + 1) (-1 : Int32) cm (upd wa mn (((16 : Int32) * (mX5_mapped mh f8 p0)) + ((p2 >>> (((8 : Int32) + ((4 : Int32) * (nI (L - 1 - p1)))) &&& 31)) &&& (15 : Int32))))) := hD
      refine lv_aload_n hx hb dX5_goes_91 rfl (lv_at hl 3 rfl) ?_
      refine va_get (D := (dC, dI)) (ci := 5) (v := .ref (ga 1)) (C := RX5) (T := TX5) (N := 30) hx hb hta inA_X5 hown hK hP 0 rfl rfl 3 (by decide) (hta _ aw_514) (fun _ h9 => h9) rfl dX5_goes_92 ?_
      refine lv_iload hx hb dX5_goes_95 (lv_at hl 0 rfl) ?_
      refine va_lald hx hb hK hP 1 0 rfl rfl (cx_wordin2 c_14_1 c_30_2) dX5_goes_97 ?_
      refine lv_lstore (lv' := [(8, .long (mm (((16 : Int32) * (mX5_mapped mh f8 p0)) + ((p2 >>> (((8 : Int32) + ((4 : Int32) * (nI (L - 1 - p1)))) &&& 31)) &&& (15 : Int32))).toNatClampNeg)), (7, .int (((16 : Int32) * (mX5_mapped mh f8 p0)) + ((p2 >>> (((8 : Int32) + ((4 : Int32) * (nI (L - 1 - p1)))) &&& 31)) &&& (15 : Int32)))), (6, .int (nI (L - 1 - p1))), (5, .int (mX5_mapped mh f8 p0)), (0, .ref (ga 0)), (1, .int p0), (2, .int (nI p1)), (3, .int p2), (4, .int p3)]) hx hb dX5_goes_98 hl (by decide) rfl (fun ls hl => ?_)
      refine lv_lload hx hb dX5_goes_100 (lv_at hl 0 rfl) ?_
      refine lv_lconst (v := 1) hx hb dX5_goes_102 (by decide) ?_
      refine lv_land hx hb dX5_goes_103 ?_
      refine lv_lconst (v := 0) hx hb dX5_goes_104 (by decide) ?_
      refine W.lcmp hx hb dX5_goes_105 ?_
      refine lv_if_ne (tgt := 116) hx hb dX5_goes_106 (by decide) (fun c_106_3 => ?_) (fun c_106_3 => ?_)
      · refine lv_lload hx hb dX5_goes_116 (lv_at hl 0 rfl) ?_
        refine lv_ldc2 (v := 32) hx hb hown (hta _ aw_693) dX5_goes_118 ?_
        refine lv_land hx hb dX5_goes_121 ?_
        refine lv_lconst (v := 0) hx hb dX5_goes_122 (by decide) ?_
        refine W.lcmp hx hb dX5_goes_123 ?_
        refine lv_if_eq (tgt := 136) hx hb dX5_goes_124 (by decide) (fun c_124_4 => ?_) (fun c_124_4 => ?_)
        · refine lv_iconst (v := 0) hx hb dX5_goes_136 (by decide) ?_
          refine lv_istore (lv' := [(10, .int (0 : Int32)), (8, .long (mm (((16 : Int32) * (mX5_mapped mh f8 p0)) + ((p2 >>> (((8 : Int32) + ((4 : Int32) * (nI (L - 1 - p1)))) &&& 31)) &&& (15 : Int32))).toNatClampNeg)), (7, .int (((16 : Int32) * (mX5_mapped mh f8 p0)) + ((p2 >>> (((8 : Int32) + ((4 : Int32) * (nI (L - 1 - p1)))) &&& 31)) &&& (15 : Int32)))), (6, .int (nI (L - 1 - p1))), (5, .int (mX5_mapped mh f8 p0)), (0, .ref (ga 0)), (1, .int p0), (2, .int (nI p1)), (3, .int p2), (4, .int p3)]) hx hb dX5_goes_137 hl (by decide) rfl (fun ls hl => ?_)
          refine lv_iload hx hb dX5_goes_139 (lv_at hl 3 rfl) ?_
          refine lv_if_le (tgt := 151) hx hb dX5_goes_141 (by decide) (fun c_141_5 => ?_) (fun c_141_5 => ?_)
          · refine lv_iload hx hb dX5_goes_151 (lv_at hl 0 rfl) ?_
            refine lv_if_eq (tgt := 178) hx hb dX5_goes_153 (by decide) (fun c_153_6 => ?_) (fun c_153_6 => ?_)
            · refine lv_lload hx hb dX5_goes_178 (lv_at hl 1 rfl) ?_
              refine cx_callSi (va_runS (As := [.long (mm (((16 : Int32) * (mX5_mapped mh f8 p0)) + ((p2 >>> (((8 : Int32) + ((4 : Int32) * (nI (L - 1 - p1)))) &&& 31)) &&& (15 : Int32))).toNatClampNeg)]) (rest := []) ⟨hx, hb, hml, hown, hta⟩ (c_X5_rightsOf l (mm (((16 : Int32) * (mX5_mapped mh f8 p0)) + ((p2 >>> (((8 : Int32) + ((4 : Int32) * (nI (L - 1 - p1)))) &&& 31)) &&& (15 : Int32))).toNatClampNeg)) (va_cwS 1 hta (gS aw_698 aw_699 aw_43 aw_700) rfl rfl rfl (by decide +kernel) ⟨Nat.le_of_ble_eq_true rfl, Nat.le_of_ble_eq_true rfl⟩) cx_pre0 rfl rfl hl.1 rfl (lv_room (Nat.le_of_ble_eq_true rfl)) dX5_goes_180 ⟨Nat.le_of_ble_eq_true rfl, Nat.le_of_ble_eq_true rfl⟩) (fun r hw_8 => ?_)
              subst hw_8
              refine lv_iload hx hb dX5_goes_183 (lv_at hl 9 rfl) ?_
              refine cx_callSi (va_runS (As := [.int (mX5_rightsOf (mm (((16 : Int32) * (mX5_mapped mh f8 p0)) + ((p2 >>> (((8 : Int32) + ((4 : Int32) * (nI (L - 1 - p1)))) &&& 31)) &&& (15 : Int32))).toNatClampNeg)), .int p3]) (rest := []) ⟨hx, hb, hml, hown, hta⟩ (c_X5_does l (mX5_rightsOf (mm (((16 : Int32) * (mX5_mapped mh f8 p0)) + ((p2 >>> (((8 : Int32) + ((4 : Int32) * (nI (L - 1 - p1)))) &&& 31)) &&& (15 : Int32))).toNatClampNeg)) p3) (va_cwS 2 hta (gS aw_655 aw_656 aw_43 aw_657) rfl rfl rfl (by decide +kernel) ⟨Nat.le_of_ble_eq_true rfl, Nat.le_of_ble_eq_true rfl⟩) cx_pre0 rfl rfl hl.1 rfl (lv_room (Nat.le_of_ble_eq_true rfl)) dX5_goes_185 ⟨Nat.le_of_ble_eq_true rfl, Nat.le_of_ble_eq_true rfl⟩) (fun r hw_9 => ?_)
              subst hw_9
              refine lv_if_ne (tgt := 198) hx hb dX5_goes_188 (by decide) (fun c_188_9 => ?_) (fun c_188_9 => ?_)
              · refine lv_aload_n hx hb dX5_goes_198 rfl (lv_at hl 5 rfl) ?_
                refine lv_iload hx hb dX5_goes_199 (lv_at hl 3 rfl) ?_
                refine va_put (D := (dC, dI)) (ci := 5) (v := .int (nI (L - 1 - p1))) (ty := .int) (C := RX5) (T := TX5) (N := 30) hx hb hta inA_X5 tyX5 tyX5_ok nmX5 hown hK hP hD hS 0 rfl rfl 27 (by decide) (hta _ aw_538) (fun _ h9 => h9) rfl (by decide +kernel) rfl rfl (Nat.le_of_ble_eq_true rfl) dX5_goes_201 (fun H locs hP hD hS => ?_)
                have hP : va_P (dC, dI) vwCl (MWl ga gk th L N mm f1 mr mh f8 en us eC eL eB eF eR eU eX f2 f3 f4 f5 f6 f7 f14 ff fa (mn + 1) (nI (L - 1 - p1)) cm (upd wa mn (((16 : Int32) * (mX5_mapped mh f8 p0)) + ((p2 >>> (((8 : Int32) + ((4 : Int32) * (nI (L - 1 - p1)))) &&& 31)) &&& (15 : Int32))))) H := hP
                have hD : va_D A (MWl ga gk th L N mm f1 mr mh f8 en us eC eL eB eF eR eU eX f2 f3 f4 f5 f6 f7 f14 ff fa (mn + 1) (nI (L - 1 - p1)) cm (upd wa mn (((16 : Int32) * (mX5_mapped mh f8 p0)) + ((p2 >>> (((8 : Int32) + ((4 : Int32) * (nI (L - 1 - p1)))) &&& 31)) &&& (15 : Int32))))) := hD
                refine lv_iconst (v := 1) hx hb dX5_goes_204 (by decide) ?_
                exact W.zret (ty := .boolean) (v := (1 : Int32)) hx hb hr rfl (fun t ht hW => ⟨⟨(1 : Int32), (ff, fa, (mn + 1), nI (L - 1 - p1), upd wa mn (((16 : Int32) * (mX5_mapped mh f8 p0)) + ((p2 >>> (((8 : Int32) + ((4 : Int32) * (nI (L - 1 - p1)))) &&& 31)) &&& (15 : Int32)))), rfl, (by unfold mX5_goes; rewrite [if_pos c_14_1]; rewrite [if_pos c_30_2]; rewrite [if_neg c_106_3]; rewrite [if_pos c_124_4]; rewrite [if_pos c_141_5]; rewrite [if_neg c_188_9]; (first | done | rfl)), by rw [ht]; exact hP, va_K.moved hW.alike hK, hD⟩, hS.F ht⟩) hS.2.2 dX5_goes_205
              · refine lv_aload_n hx hb dX5_goes_191 rfl (lv_at hl 5 rfl) ?_
                refine lv_iconst (v := 3) hx hb dX5_goes_192 (by decide) ?_
                refine lv_iload_n hx hb dX5_goes_193 rfl (lv_at hl 7 rfl) ?_
                have hFc : ∀ q, va_A (MWl ga gk th L N mm f1 mr mh f8 en us eC eL eB eF eR eU eX f2 f3 f4 f5 f6 f7 f14 ff fa (mn + 1) (-1 : Int32) cm (upd wa mn (((16 : Int32) * (mX5_mapped mh f8 p0)) + ((p2 >>> (((8 : Int32) + ((4 : Int32) * (nI (L - 1 - p1)))) &&& 31)) &&& (15 : Int32))))) H.size q → A q := cx_free hD hS hA
                refine va_calli (va_runV (As := [.int (3 : Int32), .int (nI p1)]) (rest := []) ⟨hx, hb, hml, hown, hta⟩ (c_X5_fails l dC dI ga gk th L N mm f1 mr mh f8 en us eC eL eB eF eR eU eX f2 f3 f4 f5 f6 f7 f14 ff fa (mn + 1) (-1 : Int32) cm (upd wa mn (((16 : Int32) * (mX5_mapped mh f8 p0)) + ((p2 >>> (((8 : Int32) + ((4 : Int32) * (nI (L - 1 - p1)))) &&& 31)) &&& (15 : Int32)))) H.size (3 : Int32) (nI p1)) (cwV 2 hta (gV aw_666 aw_668 aw_26 aw_43 aw_669) rfl rfl rfl (by decide +kernel) ⟨Nat.le_of_ble_eq_true rfl, Nat.le_of_ble_eq_true rfl⟩) (cx_preVQ hK hP hN (va_recv hK hP (ci := 5) (q0 := 0) rfl rfl) hD) rfl rfl hl.1 rfl (lv_room (Nat.le_of_ble_eq_true rfl)) dX5_goes_194 ⟨Nat.le_of_ble_eq_true rfl, Nat.le_of_ble_eq_true rfl⟩) hS (fun q _ h => hFc q h) hFc (fun r_11 u t9 H1 locs ht hvm hw_11 hB hz1 hk1 hS => ?_)
                obtain ⟨ff_11, fa_11⟩ := u
                obtain ⟨hP, hK1, hD1⟩ := hB
                rw [ht] at hP
                have hD := hD1.weaken (fun _ _ _ h => hFc _ h)
                clear hFc hz1 hk1 hK1 hD1 ht hvm
                generalize H1 = H at hP hS ⊢
                have hP : va_P (dC, dI) vwCl (MWl ga gk th L N mm f1 mr mh f8 en us eC eL eB eF eR eU eX f2 f3 f4 f5 f6 f7 f14 ff_11 fa_11 (mn + 1) (-1 : Int32) cm (upd wa mn (((16 : Int32) * (mX5_mapped mh f8 p0)) + ((p2 >>> (((8 : Int32) + ((4 : Int32) * (nI (L - 1 - p1)))) &&& 31)) &&& (15 : Int32))))) H := hP
                have hD : va_D A (MWl ga gk th L N mm f1 mr mh f8 en us eC eL eB eF eR eU eX f2 f3 f4 f5 f6 f7 f14 ff_11 fa_11 (mn + 1) (-1 : Int32) cm (upd wa mn (((16 : Int32) * (mX5_mapped mh f8 p0)) + ((p2 >>> (((8 : Int32) + ((4 : Int32) * (nI (L - 1 - p1)))) &&& 31)) &&& (15 : Int32))))) := hD
                have hzf : narrow .boolean (.int r_11) = .int r_11 := by have := hw_11; unfold mX5_fails at this; cases this; rfl
                exact W.zret (ty := .boolean) (v := r_11) hx hb hr hzf (fun t ht hW => ⟨⟨r_11, (ff_11, fa_11, (mn + 1), (-1 : Int32), upd wa mn (((16 : Int32) * (mX5_mapped mh f8 p0)) + ((p2 >>> (((8 : Int32) + ((4 : Int32) * (nI (L - 1 - p1)))) &&& 31)) &&& (15 : Int32)))), rfl, (by unfold mX5_goes; rewrite [if_pos c_14_1]; rewrite [if_pos c_30_2]; rewrite [if_neg c_106_3]; rewrite [if_pos c_124_4]; rewrite [if_pos c_141_5]; rewrite [if_pos c_188_9]; rewrite [← hw_11]; (try dsimp only); (first | done | rfl)), by rw [ht]; exact hP, va_K.moved hW.alike hK, hD⟩, hS.F ht⟩) hS.2.2 dX5_goes_197
            · exact absurd (by decide) c_153_6
          · refine lv_iload hx hb dX5_goes_144 (lv_at hl 0 rfl) ?_
            refine lv_if_ne (tgt := 151) hx hb dX5_goes_146 (by decide) (fun c_146_11 => ?_) (fun c_146_11 => ?_)
            · exact absurd (by decide) c_146_11
            · refine lv_iconst (v := 1) hx hb dX5_goes_149 (by decide) ?_
              exact W.zret (ty := .boolean) (v := (1 : Int32)) hx hb hr rfl (fun t ht hW => ⟨⟨(1 : Int32), (ff, fa, (mn + 1), (-1 : Int32), upd wa mn (((16 : Int32) * (mX5_mapped mh f8 p0)) + ((p2 >>> (((8 : Int32) + ((4 : Int32) * (nI (L - 1 - p1)))) &&& 31)) &&& (15 : Int32)))), rfl, (by unfold mX5_goes; rewrite [if_pos c_14_1]; rewrite [if_pos c_30_2]; rewrite [if_neg c_106_3]; rewrite [if_pos c_124_4]; rewrite [if_neg c_141_5]; (first | done | rfl)), by rw [ht]; exact hP, va_K.moved hW.alike hK, hD⟩, hS.F ht⟩) hS.2.2 dX5_goes_150
        · refine lv_iload hx hb dX5_goes_127 (lv_at hl 2 rfl) ?_
          refine lv_if_le (tgt := 136) hx hb dX5_goes_129 (by decide) (fun c_129_12 => ?_) (fun c_129_12 => ?_)
          · refine lv_iconst (v := 0) hx hb dX5_goes_136 (by decide) ?_
            refine lv_istore (lv' := [(10, .int (0 : Int32)), (8, .long (mm (((16 : Int32) * (mX5_mapped mh f8 p0)) + ((p2 >>> (((8 : Int32) + ((4 : Int32) * (nI (L - 1 - p1)))) &&& 31)) &&& (15 : Int32))).toNatClampNeg)), (7, .int (((16 : Int32) * (mX5_mapped mh f8 p0)) + ((p2 >>> (((8 : Int32) + ((4 : Int32) * (nI (L - 1 - p1)))) &&& 31)) &&& (15 : Int32)))), (6, .int (nI (L - 1 - p1))), (5, .int (mX5_mapped mh f8 p0)), (0, .ref (ga 0)), (1, .int p0), (2, .int (nI p1)), (3, .int p2), (4, .int p3)]) hx hb dX5_goes_137 hl (by decide) rfl (fun ls hl => ?_)
            refine lv_iload hx hb dX5_goes_139 (lv_at hl 3 rfl) ?_
            refine lv_if_le (tgt := 151) hx hb dX5_goes_141 (by decide) (fun c_141_13 => ?_) (fun c_141_13 => ?_)
            · refine lv_iload hx hb dX5_goes_151 (lv_at hl 0 rfl) ?_
              refine lv_if_eq (tgt := 178) hx hb dX5_goes_153 (by decide) (fun c_153_14 => ?_) (fun c_153_14 => ?_)
              · refine lv_lload hx hb dX5_goes_178 (lv_at hl 1 rfl) ?_
                refine cx_callSi (va_runS (As := [.long (mm (((16 : Int32) * (mX5_mapped mh f8 p0)) + ((p2 >>> (((8 : Int32) + ((4 : Int32) * (nI (L - 1 - p1)))) &&& 31)) &&& (15 : Int32))).toNatClampNeg)]) (rest := []) ⟨hx, hb, hml, hown, hta⟩ (c_X5_rightsOf l (mm (((16 : Int32) * (mX5_mapped mh f8 p0)) + ((p2 >>> (((8 : Int32) + ((4 : Int32) * (nI (L - 1 - p1)))) &&& 31)) &&& (15 : Int32))).toNatClampNeg)) (va_cwS 1 hta (gS aw_698 aw_699 aw_43 aw_700) rfl rfl rfl (by decide +kernel) ⟨Nat.le_of_ble_eq_true rfl, Nat.le_of_ble_eq_true rfl⟩) cx_pre0 rfl rfl hl.1 rfl (lv_room (Nat.le_of_ble_eq_true rfl)) dX5_goes_180 ⟨Nat.le_of_ble_eq_true rfl, Nat.le_of_ble_eq_true rfl⟩) (fun r hw_16 => ?_)
                subst hw_16
                refine lv_iload hx hb dX5_goes_183 (lv_at hl 9 rfl) ?_
                refine cx_callSi (va_runS (As := [.int (mX5_rightsOf (mm (((16 : Int32) * (mX5_mapped mh f8 p0)) + ((p2 >>> (((8 : Int32) + ((4 : Int32) * (nI (L - 1 - p1)))) &&& 31)) &&& (15 : Int32))).toNatClampNeg)), .int p3]) (rest := []) ⟨hx, hb, hml, hown, hta⟩ (c_X5_does l (mX5_rightsOf (mm (((16 : Int32) * (mX5_mapped mh f8 p0)) + ((p2 >>> (((8 : Int32) + ((4 : Int32) * (nI (L - 1 - p1)))) &&& 31)) &&& (15 : Int32))).toNatClampNeg)) p3) (va_cwS 2 hta (gS aw_655 aw_656 aw_43 aw_657) rfl rfl rfl (by decide +kernel) ⟨Nat.le_of_ble_eq_true rfl, Nat.le_of_ble_eq_true rfl⟩) cx_pre0 rfl rfl hl.1 rfl (lv_room (Nat.le_of_ble_eq_true rfl)) dX5_goes_185 ⟨Nat.le_of_ble_eq_true rfl, Nat.le_of_ble_eq_true rfl⟩) (fun r hw_17 => ?_)
                subst hw_17
                refine lv_if_ne (tgt := 198) hx hb dX5_goes_188 (by decide) (fun c_188_17 => ?_) (fun c_188_17 => ?_)
                · refine lv_aload_n hx hb dX5_goes_198 rfl (lv_at hl 5 rfl) ?_
                  refine lv_iload hx hb dX5_goes_199 (lv_at hl 3 rfl) ?_
                  refine va_put (D := (dC, dI)) (ci := 5) (v := .int (nI (L - 1 - p1))) (ty := .int) (C := RX5) (T := TX5) (N := 30) hx hb hta inA_X5 tyX5 tyX5_ok nmX5 hown hK hP hD hS 0 rfl rfl 27 (by decide) (hta _ aw_538) (fun _ h9 => h9) rfl (by decide +kernel) rfl rfl (Nat.le_of_ble_eq_true rfl) dX5_goes_201 (fun H locs hP hD hS => ?_)
                  have hP : va_P (dC, dI) vwCl (MWl ga gk th L N mm f1 mr mh f8 en us eC eL eB eF eR eU eX f2 f3 f4 f5 f6 f7 f14 ff fa (mn + 1) (nI (L - 1 - p1)) cm (upd wa mn (((16 : Int32) * (mX5_mapped mh f8 p0)) + ((p2 >>> (((8 : Int32) + ((4 : Int32) * (nI (L - 1 - p1)))) &&& 31)) &&& (15 : Int32))))) H := hP
                  have hD : va_D A (MWl ga gk th L N mm f1 mr mh f8 en us eC eL eB eF eR eU eX f2 f3 f4 f5 f6 f7 f14 ff fa (mn + 1) (nI (L - 1 - p1)) cm (upd wa mn (((16 : Int32) * (mX5_mapped mh f8 p0)) + ((p2 >>> (((8 : Int32) + ((4 : Int32) * (nI (L - 1 - p1)))) &&& 31)) &&& (15 : Int32))))) := hD
                  refine lv_iconst (v := 1) hx hb dX5_goes_204 (by decide) ?_
                  exact W.zret (ty := .boolean) (v := (1 : Int32)) hx hb hr rfl (fun t ht hW => ⟨⟨(1 : Int32), (ff, fa, (mn + 1), nI (L - 1 - p1), upd wa mn (((16 : Int32) * (mX5_mapped mh f8 p0)) + ((p2 >>> (((8 : Int32) + ((4 : Int32) * (nI (L - 1 - p1)))) &&& 31)) &&& (15 : Int32)))), rfl, (by unfold mX5_goes; rewrite [if_pos c_14_1]; rewrite [if_pos c_30_2]; rewrite [if_neg c_106_3]; rewrite [if_neg c_124_4]; rewrite [if_pos c_129_12]; rewrite [if_neg c_188_17]; (first | done | rfl)), by rw [ht]; exact hP, va_K.moved hW.alike hK, hD⟩, hS.F ht⟩) hS.2.2 dX5_goes_205
                · refine lv_aload_n hx hb dX5_goes_191 rfl (lv_at hl 5 rfl) ?_
                  refine lv_iconst (v := 3) hx hb dX5_goes_192 (by decide) ?_
                  refine lv_iload_n hx hb dX5_goes_193 rfl (lv_at hl 7 rfl) ?_
                  have hFc : ∀ q, va_A (MWl ga gk th L N mm f1 mr mh f8 en us eC eL eB eF eR eU eX f2 f3 f4 f5 f6 f7 f14 ff fa (mn + 1) (-1 : Int32) cm (upd wa mn (((16 : Int32) * (mX5_mapped mh f8 p0)) + ((p2 >>> (((8 : Int32) + ((4 : Int32) * (nI (L - 1 - p1)))) &&& 31)) &&& (15 : Int32))))) H.size q → A q := cx_free hD hS hA
                  refine va_calli (va_runV (As := [.int (3 : Int32), .int (nI p1)]) (rest := []) ⟨hx, hb, hml, hown, hta⟩ (c_X5_fails l dC dI ga gk th L N mm f1 mr mh f8 en us eC eL eB eF eR eU eX f2 f3 f4 f5 f6 f7 f14 ff fa (mn + 1) (-1 : Int32) cm (upd wa mn (((16 : Int32) * (mX5_mapped mh f8 p0)) + ((p2 >>> (((8 : Int32) + ((4 : Int32) * (nI (L - 1 - p1)))) &&& 31)) &&& (15 : Int32)))) H.size (3 : Int32) (nI p1)) (cwV 2 hta (gV aw_666 aw_668 aw_26 aw_43 aw_669) rfl rfl rfl (by decide +kernel) ⟨Nat.le_of_ble_eq_true rfl, Nat.le_of_ble_eq_true rfl⟩) (cx_preVQ hK hP hN (va_recv hK hP (ci := 5) (q0 := 0) rfl rfl) hD) rfl rfl hl.1 rfl (lv_room (Nat.le_of_ble_eq_true rfl)) dX5_goes_194 ⟨Nat.le_of_ble_eq_true rfl, Nat.le_of_ble_eq_true rfl⟩) hS (fun q _ h => hFc q h) hFc (fun r_19 u t9 H1 locs ht hvm hw_19 hB hz1 hk1 hS => ?_)
                  obtain ⟨ff_19, fa_19⟩ := u
                  obtain ⟨hP, hK1, hD1⟩ := hB
                  rw [ht] at hP
                  have hD := hD1.weaken (fun _ _ _ h => hFc _ h)
                  clear hFc hz1 hk1 hK1 hD1 ht hvm
                  generalize H1 = H at hP hS ⊢
                  have hP : va_P (dC, dI) vwCl (MWl ga gk th L N mm f1 mr mh f8 en us eC eL eB eF eR eU eX f2 f3 f4 f5 f6 f7 f14 ff_19 fa_19 (mn + 1) (-1 : Int32) cm (upd wa mn (((16 : Int32) * (mX5_mapped mh f8 p0)) + ((p2 >>> (((8 : Int32) + ((4 : Int32) * (nI (L - 1 - p1)))) &&& 31)) &&& (15 : Int32))))) H := hP
                  have hD : va_D A (MWl ga gk th L N mm f1 mr mh f8 en us eC eL eB eF eR eU eX f2 f3 f4 f5 f6 f7 f14 ff_19 fa_19 (mn + 1) (-1 : Int32) cm (upd wa mn (((16 : Int32) * (mX5_mapped mh f8 p0)) + ((p2 >>> (((8 : Int32) + ((4 : Int32) * (nI (L - 1 - p1)))) &&& 31)) &&& (15 : Int32))))) := hD
                  have hzf : narrow .boolean (.int r_19) = .int r_19 := by have := hw_19; unfold mX5_fails at this; cases this; rfl
                  exact W.zret (ty := .boolean) (v := r_19) hx hb hr hzf (fun t ht hW => ⟨⟨r_19, (ff_19, fa_19, (mn + 1), (-1 : Int32), upd wa mn (((16 : Int32) * (mX5_mapped mh f8 p0)) + ((p2 >>> (((8 : Int32) + ((4 : Int32) * (nI (L - 1 - p1)))) &&& 31)) &&& (15 : Int32)))), rfl, (by unfold mX5_goes; rewrite [if_pos c_14_1]; rewrite [if_pos c_30_2]; rewrite [if_neg c_106_3]; rewrite [if_neg c_124_4]; rewrite [if_pos c_129_12]; rewrite [if_pos c_188_17]; rewrite [← hw_19]; (try dsimp only); (first | done | rfl)), by rw [ht]; exact hP, va_K.moved hW.alike hK, hD⟩, hS.F ht⟩) hS.2.2 dX5_goes_197
              · exact absurd (by decide) c_153_14
            · exact absurd c_129_12 c_141_13
          · refine lv_iconst (v := 1) hx hb dX5_goes_132 (by decide) ?_
            refine lv_goto (tgt := 137) hx hb dX5_goes_133 (by decide) ?_
            refine lv_istore (lv' := [(10, .int (1 : Int32)), (8, .long (mm (((16 : Int32) * (mX5_mapped mh f8 p0)) + ((p2 >>> (((8 : Int32) + ((4 : Int32) * (nI (L - 1 - p1)))) &&& 31)) &&& (15 : Int32))).toNatClampNeg)), (7, .int (((16 : Int32) * (mX5_mapped mh f8 p0)) + ((p2 >>> (((8 : Int32) + ((4 : Int32) * (nI (L - 1 - p1)))) &&& 31)) &&& (15 : Int32)))), (6, .int (nI (L - 1 - p1))), (5, .int (mX5_mapped mh f8 p0)), (0, .ref (ga 0)), (1, .int p0), (2, .int (nI p1)), (3, .int p2), (4, .int p3)]) hx hb dX5_goes_137 hl (by decide) rfl (fun ls hl => ?_)
            refine lv_iload hx hb dX5_goes_139 (lv_at hl 3 rfl) ?_
            refine lv_if_le (tgt := 151) hx hb dX5_goes_141 (by decide) (fun c_141_19 => ?_) (fun c_141_19 => ?_)
            · exact absurd c_141_19 c_129_12
            · refine lv_iload hx hb dX5_goes_144 (lv_at hl 0 rfl) ?_
              refine lv_if_ne (tgt := 151) hx hb dX5_goes_146 (by decide) (fun c_146_20 => ?_) (fun c_146_20 => ?_)
              · refine lv_iload hx hb dX5_goes_151 (lv_at hl 0 rfl) ?_
                refine lv_if_eq (tgt := 178) hx hb dX5_goes_153 (by decide) (fun c_153_21 => ?_) (fun c_153_21 => ?_)
                · exact absurd c_153_21 (by decide)
                · refine lv_lload hx hb dX5_goes_156 (lv_at hl 1 rfl) ?_
                  refine cx_callSi (va_runS (As := [.long (mm (((16 : Int32) * (mX5_mapped mh f8 p0)) + ((p2 >>> (((8 : Int32) + ((4 : Int32) * (nI (L - 1 - p1)))) &&& 31)) &&& (15 : Int32))).toNatClampNeg)]) (rest := []) ⟨hx, hb, hml, hown, hta⟩ (c_X5_frameOf l (mm (((16 : Int32) * (mX5_mapped mh f8 p0)) + ((p2 >>> (((8 : Int32) + ((4 : Int32) * (nI (L - 1 - p1)))) &&& 31)) &&& (15 : Int32))).toNatClampNeg)) (va_cwS 1 hta (gS aw_694 aw_695 aw_43 aw_696) rfl rfl rfl (by decide +kernel) ⟨Nat.le_of_ble_eq_true rfl, Nat.le_of_ble_eq_true rfl⟩) cx_pre0 rfl rfl hl.1 rfl (lv_room (Nat.le_of_ble_eq_true rfl)) dX5_goes_158 ⟨Nat.le_of_ble_eq_true rfl, Nat.le_of_ble_eq_true rfl⟩) (fun r hw_23 => ?_)
                  subst hw_23
                  refine lv_iconst (v := 1) hx hb dX5_goes_161 (by decide) ?_
                  refine lv_iconst (v := 4) hx hb dX5_goes_162 (by decide) ?_
                  refine lv_iload hx hb dX5_goes_163 (lv_at hl 3 rfl) ?_
                  refine lv_imul hx hb dX5_goes_165 ?_
                  refine lv_ishl hx hb dX5_goes_166 ?_
                  refine lv_irem hx hb dX5_goes_167 (cx_pow_ne (by omega)) ?_
                  refine lv_if_eq (tgt := 178) hx hb dX5_goes_168 (by decide) (fun c_168_23 => ?_) (fun c_168_23 => ?_)
                  · refine lv_lload hx hb dX5_goes_178 (lv_at hl 1 rfl) ?_
                    refine cx_callSi (va_runS (As := [.long (mm (((16 : Int32) * (mX5_mapped mh f8 p0)) + ((p2 >>> (((8 : Int32) + ((4 : Int32) * (nI (L - 1 - p1)))) &&& 31)) &&& (15 : Int32))).toNatClampNeg)]) (rest := []) ⟨hx, hb, hml, hown, hta⟩ (c_X5_rightsOf l (mm (((16 : Int32) * (mX5_mapped mh f8 p0)) + ((p2 >>> (((8 : Int32) + ((4 : Int32) * (nI (L - 1 - p1)))) &&& 31)) &&& (15 : Int32))).toNatClampNeg)) (va_cwS 1 hta (gS aw_698 aw_699 aw_43 aw_700) rfl rfl rfl (by decide +kernel) ⟨Nat.le_of_ble_eq_true rfl, Nat.le_of_ble_eq_true rfl⟩) cx_pre0 rfl rfl hl.1 rfl (lv_room (Nat.le_of_ble_eq_true rfl)) dX5_goes_180 ⟨Nat.le_of_ble_eq_true rfl, Nat.le_of_ble_eq_true rfl⟩) (fun r hw_25 => ?_)
                    subst hw_25
                    refine lv_iload hx hb dX5_goes_183 (lv_at hl 9 rfl) ?_
                    refine cx_callSi (va_runS (As := [.int (mX5_rightsOf (mm (((16 : Int32) * (mX5_mapped mh f8 p0)) + ((p2 >>> (((8 : Int32) + ((4 : Int32) * (nI (L - 1 - p1)))) &&& 31)) &&& (15 : Int32))).toNatClampNeg)), .int p3]) (rest := []) ⟨hx, hb, hml, hown, hta⟩ (c_X5_does l (mX5_rightsOf (mm (((16 : Int32) * (mX5_mapped mh f8 p0)) + ((p2 >>> (((8 : Int32) + ((4 : Int32) * (nI (L - 1 - p1)))) &&& 31)) &&& (15 : Int32))).toNatClampNeg)) p3) (va_cwS 2 hta (gS aw_655 aw_656 aw_43 aw_657) rfl rfl rfl (by decide +kernel) ⟨Nat.le_of_ble_eq_true rfl, Nat.le_of_ble_eq_true rfl⟩) cx_pre0 rfl rfl hl.1 rfl (lv_room (Nat.le_of_ble_eq_true rfl)) dX5_goes_185 ⟨Nat.le_of_ble_eq_true rfl, Nat.le_of_ble_eq_true rfl⟩) (fun r hw_26 => ?_)
                    subst hw_26
                    refine lv_if_ne (tgt := 198) hx hb dX5_goes_188 (by decide) (fun c_188_26 => ?_) (fun c_188_26 => ?_)
                    · refine lv_aload_n hx hb dX5_goes_198 rfl (lv_at hl 5 rfl) ?_
                      refine lv_iload hx hb dX5_goes_199 (lv_at hl 3 rfl) ?_
                      refine va_put (D := (dC, dI)) (ci := 5) (v := .int (nI (L - 1 - p1))) (ty := .int) (C := RX5) (T := TX5) (N := 30) hx hb hta inA_X5 tyX5 tyX5_ok nmX5 hown hK hP hD hS 0 rfl rfl 27 (by decide) (hta _ aw_538) (fun _ h9 => h9) rfl (by decide +kernel) rfl rfl (Nat.le_of_ble_eq_true rfl) dX5_goes_201 (fun H locs hP hD hS => ?_)
                      have hP : va_P (dC, dI) vwCl (MWl ga gk th L N mm f1 mr mh f8 en us eC eL eB eF eR eU eX f2 f3 f4 f5 f6 f7 f14 ff fa (mn + 1) (nI (L - 1 - p1)) cm (upd wa mn (((16 : Int32) * (mX5_mapped mh f8 p0)) + ((p2 >>> (((8 : Int32) + ((4 : Int32) * (nI (L - 1 - p1)))) &&& 31)) &&& (15 : Int32))))) H := hP
                      have hD : va_D A (MWl ga gk th L N mm f1 mr mh f8 en us eC eL eB eF eR eU eX f2 f3 f4 f5 f6 f7 f14 ff fa (mn + 1) (nI (L - 1 - p1)) cm (upd wa mn (((16 : Int32) * (mX5_mapped mh f8 p0)) + ((p2 >>> (((8 : Int32) + ((4 : Int32) * (nI (L - 1 - p1)))) &&& 31)) &&& (15 : Int32))))) := hD
                      refine lv_iconst (v := 1) hx hb dX5_goes_204 (by decide) ?_
                      exact W.zret (ty := .boolean) (v := (1 : Int32)) hx hb hr rfl (fun t ht hW => ⟨⟨(1 : Int32), (ff, fa, (mn + 1), nI (L - 1 - p1), upd wa mn (((16 : Int32) * (mX5_mapped mh f8 p0)) + ((p2 >>> (((8 : Int32) + ((4 : Int32) * (nI (L - 1 - p1)))) &&& 31)) &&& (15 : Int32)))), rfl, (by unfold mX5_goes; rewrite [if_pos c_14_1]; rewrite [if_pos c_30_2]; rewrite [if_neg c_106_3]; rewrite [if_neg c_124_4]; rewrite [if_neg c_129_12]; rewrite [if_pos c_168_23]; rewrite [if_neg c_188_26]; (first | done | rfl)), by rw [ht]; exact hP, va_K.moved hW.alike hK, hD⟩, hS.F ht⟩) hS.2.2 dX5_goes_205
                    · refine lv_aload_n hx hb dX5_goes_191 rfl (lv_at hl 5 rfl) ?_
                      refine lv_iconst (v := 3) hx hb dX5_goes_192 (by decide) ?_
                      refine lv_iload_n hx hb dX5_goes_193 rfl (lv_at hl 7 rfl) ?_
                      have hFc : ∀ q, va_A (MWl ga gk th L N mm f1 mr mh f8 en us eC eL eB eF eR eU eX f2 f3 f4 f5 f6 f7 f14 ff fa (mn + 1) (-1 : Int32) cm (upd wa mn (((16 : Int32) * (mX5_mapped mh f8 p0)) + ((p2 >>> (((8 : Int32) + ((4 : Int32) * (nI (L - 1 - p1)))) &&& 31)) &&& (15 : Int32))))) H.size q → A q := cx_free hD hS hA
                      refine va_calli (va_runV (As := [.int (3 : Int32), .int (nI p1)]) (rest := []) ⟨hx, hb, hml, hown, hta⟩ (c_X5_fails l dC dI ga gk th L N mm f1 mr mh f8 en us eC eL eB eF eR eU eX f2 f3 f4 f5 f6 f7 f14 ff fa (mn + 1) (-1 : Int32) cm (upd wa mn (((16 : Int32) * (mX5_mapped mh f8 p0)) + ((p2 >>> (((8 : Int32) + ((4 : Int32) * (nI (L - 1 - p1)))) &&& 31)) &&& (15 : Int32)))) H.size (3 : Int32) (nI p1)) (cwV 2 hta (gV aw_666 aw_668 aw_26 aw_43 aw_669) rfl rfl rfl (by decide +kernel) ⟨Nat.le_of_ble_eq_true rfl, Nat.le_of_ble_eq_true rfl⟩) (cx_preVQ hK hP hN (va_recv hK hP (ci := 5) (q0 := 0) rfl rfl) hD) rfl rfl hl.1 rfl (lv_room (Nat.le_of_ble_eq_true rfl)) dX5_goes_194 ⟨Nat.le_of_ble_eq_true rfl, Nat.le_of_ble_eq_true rfl⟩) hS (fun q _ h => hFc q h) hFc (fun r_28 u t9 H1 locs ht hvm hw_28 hB hz1 hk1 hS => ?_)
                      obtain ⟨ff_28, fa_28⟩ := u
                      obtain ⟨hP, hK1, hD1⟩ := hB
                      rw [ht] at hP
                      have hD := hD1.weaken (fun _ _ _ h => hFc _ h)
                      clear hFc hz1 hk1 hK1 hD1 ht hvm
                      generalize H1 = H at hP hS ⊢
                      have hP : va_P (dC, dI) vwCl (MWl ga gk th L N mm f1 mr mh f8 en us eC eL eB eF eR eU eX f2 f3 f4 f5 f6 f7 f14 ff_28 fa_28 (mn + 1) (-1 : Int32) cm (upd wa mn (((16 : Int32) * (mX5_mapped mh f8 p0)) + ((p2 >>> (((8 : Int32) + ((4 : Int32) * (nI (L - 1 - p1)))) &&& 31)) &&& (15 : Int32))))) H := hP
                      have hD : va_D A (MWl ga gk th L N mm f1 mr mh f8 en us eC eL eB eF eR eU eX f2 f3 f4 f5 f6 f7 f14 ff_28 fa_28 (mn + 1) (-1 : Int32) cm (upd wa mn (((16 : Int32) * (mX5_mapped mh f8 p0)) + ((p2 >>> (((8 : Int32) + ((4 : Int32) * (nI (L - 1 - p1)))) &&& 31)) &&& (15 : Int32))))) := hD
                      have hzf : narrow .boolean (.int r_28) = .int r_28 := by have := hw_28; unfold mX5_fails at this; cases this; rfl
                      exact W.zret (ty := .boolean) (v := r_28) hx hb hr hzf (fun t ht hW => ⟨⟨r_28, (ff_28, fa_28, (mn + 1), (-1 : Int32), upd wa mn (((16 : Int32) * (mX5_mapped mh f8 p0)) + ((p2 >>> (((8 : Int32) + ((4 : Int32) * (nI (L - 1 - p1)))) &&& 31)) &&& (15 : Int32)))), rfl, (by unfold mX5_goes; rewrite [if_pos c_14_1]; rewrite [if_pos c_30_2]; rewrite [if_neg c_106_3]; rewrite [if_neg c_124_4]; rewrite [if_neg c_129_12]; rewrite [if_pos c_168_23]; rewrite [if_pos c_188_26]; rewrite [← hw_28]; (try dsimp only); (first | done | rfl)), by rw [ht]; exact hP, va_K.moved hW.alike hK, hD⟩, hS.F ht⟩) hS.2.2 dX5_goes_197
                  · refine lv_aload_n hx hb dX5_goes_171 rfl (lv_at hl 5 rfl) ?_
                    refine lv_iconst (v := 4) hx hb dX5_goes_172 (by decide) ?_
                    refine lv_iload_n hx hb dX5_goes_173 rfl (lv_at hl 7 rfl) ?_
                    have hFc : ∀ q, va_A (MWl ga gk th L N mm f1 mr mh f8 en us eC eL eB eF eR eU eX f2 f3 f4 f5 f6 f7 f14 ff fa (mn + 1) (-1 : Int32) cm (upd wa mn (((16 : Int32) * (mX5_mapped mh f8 p0)) + ((p2 >>> (((8 : Int32) + ((4 : Int32) * (nI (L - 1 - p1)))) &&& 31)) &&& (15 : Int32))))) H.size q → A q := cx_free hD hS hA
                    refine va_calli (va_runV (As := [.int (4 : Int32), .int (nI p1)]) (rest := []) ⟨hx, hb, hml, hown, hta⟩ (c_X5_fails l dC dI ga gk th L N mm f1 mr mh f8 en us eC eL eB eF eR eU eX f2 f3 f4 f5 f6 f7 f14 ff fa (mn + 1) (-1 : Int32) cm (upd wa mn (((16 : Int32) * (mX5_mapped mh f8 p0)) + ((p2 >>> (((8 : Int32) + ((4 : Int32) * (nI (L - 1 - p1)))) &&& 31)) &&& (15 : Int32)))) H.size (4 : Int32) (nI p1)) (cwV 2 hta (gV aw_666 aw_668 aw_26 aw_43 aw_669) rfl rfl rfl (by decide +kernel) ⟨Nat.le_of_ble_eq_true rfl, Nat.le_of_ble_eq_true rfl⟩) (cx_preVQ hK hP hN (va_recv hK hP (ci := 5) (q0 := 0) rfl rfl) hD) rfl rfl hl.1 rfl (lv_room (Nat.le_of_ble_eq_true rfl)) dX5_goes_174 ⟨Nat.le_of_ble_eq_true rfl, Nat.le_of_ble_eq_true rfl⟩) hS (fun q _ h => hFc q h) hFc (fun r_29 u t9 H1 locs ht hvm hw_29 hB hz1 hk1 hS => ?_)
                    obtain ⟨ff_29, fa_29⟩ := u
                    obtain ⟨hP, hK1, hD1⟩ := hB
                    rw [ht] at hP
                    have hD := hD1.weaken (fun _ _ _ h => hFc _ h)
                    clear hFc hz1 hk1 hK1 hD1 ht hvm
                    generalize H1 = H at hP hS ⊢
                    have hP : va_P (dC, dI) vwCl (MWl ga gk th L N mm f1 mr mh f8 en us eC eL eB eF eR eU eX f2 f3 f4 f5 f6 f7 f14 ff_29 fa_29 (mn + 1) (-1 : Int32) cm (upd wa mn (((16 : Int32) * (mX5_mapped mh f8 p0)) + ((p2 >>> (((8 : Int32) + ((4 : Int32) * (nI (L - 1 - p1)))) &&& 31)) &&& (15 : Int32))))) H := hP
                    have hD : va_D A (MWl ga gk th L N mm f1 mr mh f8 en us eC eL eB eF eR eU eX f2 f3 f4 f5 f6 f7 f14 ff_29 fa_29 (mn + 1) (-1 : Int32) cm (upd wa mn (((16 : Int32) * (mX5_mapped mh f8 p0)) + ((p2 >>> (((8 : Int32) + ((4 : Int32) * (nI (L - 1 - p1)))) &&& 31)) &&& (15 : Int32))))) := hD
                    have hzf : narrow .boolean (.int r_29) = .int r_29 := by have := hw_29; unfold mX5_fails at this; cases this; rfl
                    exact W.zret (ty := .boolean) (v := r_29) hx hb hr hzf (fun t ht hW => ⟨⟨r_29, (ff_29, fa_29, (mn + 1), (-1 : Int32), upd wa mn (((16 : Int32) * (mX5_mapped mh f8 p0)) + ((p2 >>> (((8 : Int32) + ((4 : Int32) * (nI (L - 1 - p1)))) &&& 31)) &&& (15 : Int32)))), rfl, (by unfold mX5_goes; rewrite [if_pos c_14_1]; rewrite [if_pos c_30_2]; rewrite [if_neg c_106_3]; rewrite [if_neg c_124_4]; rewrite [if_neg c_129_12]; rewrite [if_neg c_168_23]; rewrite [← hw_29]; (try dsimp only); (first | done | rfl)), by rw [ht]; exact hP, va_K.moved hW.alike hK, hD⟩, hS.F ht⟩) hS.2.2 dX5_goes_177
              · exact absurd c_146_20 (by decide)
      · refine lv_aload_n hx hb dX5_goes_109 rfl (lv_at hl 4 rfl) ?_
        refine lv_iconst (v := 2) hx hb dX5_goes_110 (by decide) ?_
        refine lv_iload_n hx hb dX5_goes_111 rfl (lv_at hl 6 rfl) ?_
        have hFc : ∀ q, va_A (MWl ga gk th L N mm f1 mr mh f8 en us eC eL eB eF eR eU eX f2 f3 f4 f5 f6 f7 f14 ff fa (mn + 1) (-1 : Int32) cm (upd wa mn (((16 : Int32) * (mX5_mapped mh f8 p0)) + ((p2 >>> (((8 : Int32) + ((4 : Int32) * (nI (L - 1 - p1)))) &&& 31)) &&& (15 : Int32))))) H.size q → A q := cx_free hD hS hA
        refine va_calli (va_runV (As := [.int (2 : Int32), .int (nI p1)]) (rest := []) ⟨hx, hb, hml, hown, hta⟩ (c_X5_fails l dC dI ga gk th L N mm f1 mr mh f8 en us eC eL eB eF eR eU eX f2 f3 f4 f5 f6 f7 f14 ff fa (mn + 1) (-1 : Int32) cm (upd wa mn (((16 : Int32) * (mX5_mapped mh f8 p0)) + ((p2 >>> (((8 : Int32) + ((4 : Int32) * (nI (L - 1 - p1)))) &&& 31)) &&& (15 : Int32)))) H.size (2 : Int32) (nI p1)) (cwV 2 hta (gV aw_666 aw_668 aw_26 aw_43 aw_669) rfl rfl rfl (by decide +kernel) ⟨Nat.le_of_ble_eq_true rfl, Nat.le_of_ble_eq_true rfl⟩) (cx_preVQ hK hP hN (va_recv hK hP (ci := 5) (q0 := 0) rfl rfl) hD) rfl rfl hl.1 rfl (lv_room (Nat.le_of_ble_eq_true rfl)) dX5_goes_112 ⟨Nat.le_of_ble_eq_true rfl, Nat.le_of_ble_eq_true rfl⟩) hS (fun q _ h => hFc q h) hFc (fun r_30 u t9 H1 locs ht hvm hw_30 hB hz1 hk1 hS => ?_)
        obtain ⟨ff_30, fa_30⟩ := u
        obtain ⟨hP, hK1, hD1⟩ := hB
        rw [ht] at hP
        have hD := hD1.weaken (fun _ _ _ h => hFc _ h)
        clear hFc hz1 hk1 hK1 hD1 ht hvm
        generalize H1 = H at hP hS ⊢
        have hP : va_P (dC, dI) vwCl (MWl ga gk th L N mm f1 mr mh f8 en us eC eL eB eF eR eU eX f2 f3 f4 f5 f6 f7 f14 ff_30 fa_30 (mn + 1) (-1 : Int32) cm (upd wa mn (((16 : Int32) * (mX5_mapped mh f8 p0)) + ((p2 >>> (((8 : Int32) + ((4 : Int32) * (nI (L - 1 - p1)))) &&& 31)) &&& (15 : Int32))))) H := hP
        have hD : va_D A (MWl ga gk th L N mm f1 mr mh f8 en us eC eL eB eF eR eU eX f2 f3 f4 f5 f6 f7 f14 ff_30 fa_30 (mn + 1) (-1 : Int32) cm (upd wa mn (((16 : Int32) * (mX5_mapped mh f8 p0)) + ((p2 >>> (((8 : Int32) + ((4 : Int32) * (nI (L - 1 - p1)))) &&& 31)) &&& (15 : Int32))))) := hD
        have hzf : narrow .boolean (.int r_30) = .int r_30 := by have := hw_30; unfold mX5_fails at this; cases this; rfl
        exact W.zret (ty := .boolean) (v := r_30) hx hb hr hzf (fun t ht hW => ⟨⟨r_30, (ff_30, fa_30, (mn + 1), (-1 : Int32), upd wa mn (((16 : Int32) * (mX5_mapped mh f8 p0)) + ((p2 >>> (((8 : Int32) + ((4 : Int32) * (nI (L - 1 - p1)))) &&& 31)) &&& (15 : Int32)))), rfl, (by unfold mX5_goes; rewrite [if_pos c_14_1]; rewrite [if_pos c_30_2]; rewrite [if_pos c_106_3]; rewrite [← hw_30]; (try dsimp only); (first | done | rfl)), by rw [ht]; exact hP, va_K.moved hW.alike hK, hD⟩, hS.F ht⟩) hS.2.2 dX5_goes_115
    · refine lv_aload_n hx hb dX5_goes_33 rfl (lv_at hl 1 rfl) ?_
      refine lv_iconst (v := 5) hx hb dX5_goes_34 (by decide) ?_
      refine lv_iload_n hx hb dX5_goes_35 rfl (lv_at hl 3 rfl) ?_
      have hFc : ∀ q, va_A (MWl ga gk th L N mm f1 mr mh f8 en us eC eL eB eF eR eU eX f2 f3 f4 f5 f6 f7 f14 ff fa mn (-1 : Int32) cm wa) H.size q → A q := cx_free hD hS hA
      refine va_calli (va_runV (As := [.int (5 : Int32), .int (nI p1)]) (rest := []) ⟨hx, hb, hml, hown, hta⟩ (c_X5_fails l dC dI ga gk th L N mm f1 mr mh f8 en us eC eL eB eF eR eU eX f2 f3 f4 f5 f6 f7 f14 ff fa mn (-1 : Int32) cm wa H.size (5 : Int32) (nI p1)) (cwV 2 hta (gV aw_666 aw_668 aw_26 aw_43 aw_669) rfl rfl rfl (by decide +kernel) ⟨Nat.le_of_ble_eq_true rfl, Nat.le_of_ble_eq_true rfl⟩) (cx_preVQ hK hP hN (va_recv hK hP (ci := 5) (q0 := 0) rfl rfl) hD) rfl rfl hl.1 rfl (lv_room (Nat.le_of_ble_eq_true rfl)) dX5_goes_36 ⟨Nat.le_of_ble_eq_true rfl, Nat.le_of_ble_eq_true rfl⟩) hS (fun q _ h => hFc q h) hFc (fun r_31 u t9 H1 locs ht hvm hw_31 hB hz1 hk1 hS => ?_)
      obtain ⟨ff_31, fa_31⟩ := u
      obtain ⟨hP, hK1, hD1⟩ := hB
      rw [ht] at hP
      have hD := hD1.weaken (fun _ _ _ h => hFc _ h)
      clear hFc hz1 hk1 hK1 hD1 ht hvm
      generalize H1 = H at hP hS ⊢
      have hP : va_P (dC, dI) vwCl (MWl ga gk th L N mm f1 mr mh f8 en us eC eL eB eF eR eU eX f2 f3 f4 f5 f6 f7 f14 ff_31 fa_31 mn (-1 : Int32) cm wa) H := hP
      have hD : va_D A (MWl ga gk th L N mm f1 mr mh f8 en us eC eL eB eF eR eU eX f2 f3 f4 f5 f6 f7 f14 ff_31 fa_31 mn (-1 : Int32) cm wa) := hD
      have hzf : narrow .boolean (.int r_31) = .int r_31 := by have := hw_31; unfold mX5_fails at this; cases this; rfl
      exact W.zret (ty := .boolean) (v := r_31) hx hb hr hzf (fun t ht hW => ⟨⟨r_31, (ff_31, fa_31, mn, (-1 : Int32), wa), rfl, (by unfold mX5_goes; rewrite [if_pos c_14_1]; rewrite [if_neg c_30_2]; rewrite [← hw_31]; (try dsimp only); (first | done | rfl)), by rw [ht]; exact hP, va_K.moved hW.alike hK, hD⟩, hS.F ht⟩) hS.2.2 dX5_goes_39
  · refine lv_aload_n hx hb dX5_goes_17 rfl (lv_at hl 1 rfl) ?_
    refine lv_bipush (v := 6) hx hb dX5_goes_18 (by decide) ?_
    refine lv_iload_n hx hb dX5_goes_20 rfl (lv_at hl 3 rfl) ?_
    have hFc : ∀ q, va_A (MWl ga gk th L N mm f1 mr mh f8 en us eC eL eB eF eR eU eX f2 f3 f4 f5 f6 f7 f14 ff fa mn (-1 : Int32) cm wa) H.size q → A q := cx_free hD hS hA
    refine va_calli (va_runV (As := [.int (6 : Int32), .int (nI p1)]) (rest := []) ⟨hx, hb, hml, hown, hta⟩ (c_X5_fails l dC dI ga gk th L N mm f1 mr mh f8 en us eC eL eB eF eR eU eX f2 f3 f4 f5 f6 f7 f14 ff fa mn (-1 : Int32) cm wa H.size (6 : Int32) (nI p1)) (cwV 2 hta (gV aw_666 aw_668 aw_26 aw_43 aw_669) rfl rfl rfl (by decide +kernel) ⟨Nat.le_of_ble_eq_true rfl, Nat.le_of_ble_eq_true rfl⟩) (cx_preVQ hK hP hN (va_recv hK hP (ci := 5) (q0 := 0) rfl rfl) hD) rfl rfl hl.1 rfl (lv_room (Nat.le_of_ble_eq_true rfl)) dX5_goes_21 ⟨Nat.le_of_ble_eq_true rfl, Nat.le_of_ble_eq_true rfl⟩) hS (fun q _ h => hFc q h) hFc (fun r_32 u t9 H1 locs ht hvm hw_32 hB hz1 hk1 hS => ?_)
    obtain ⟨ff_32, fa_32⟩ := u
    obtain ⟨hP, hK1, hD1⟩ := hB
    rw [ht] at hP
    have hD := hD1.weaken (fun _ _ _ h => hFc _ h)
    clear hFc hz1 hk1 hK1 hD1 ht hvm
    generalize H1 = H at hP hS ⊢
    have hP : va_P (dC, dI) vwCl (MWl ga gk th L N mm f1 mr mh f8 en us eC eL eB eF eR eU eX f2 f3 f4 f5 f6 f7 f14 ff_32 fa_32 mn (-1 : Int32) cm wa) H := hP
    have hD : va_D A (MWl ga gk th L N mm f1 mr mh f8 en us eC eL eB eF eR eU eX f2 f3 f4 f5 f6 f7 f14 ff_32 fa_32 mn (-1 : Int32) cm wa) := hD
    have hzf : narrow .boolean (.int r_32) = .int r_32 := by have := hw_32; unfold mX5_fails at this; cases this; rfl
    exact W.zret (ty := .boolean) (v := r_32) hx hb hr hzf (fun t ht hW => ⟨⟨r_32, (ff_32, fa_32, mn, (-1 : Int32), wa), rfl, (by unfold mX5_goes; rewrite [if_neg c_14_1]; rewrite [← hw_32]; (try dsimp only); (first | done | rfl)), by rw [ht]; exact hP, va_K.moved hW.alike hK, hD⟩, hS.F ht⟩) hS.2.2 dX5_goes_24
end
