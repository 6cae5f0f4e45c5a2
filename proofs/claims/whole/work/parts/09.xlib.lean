def strL : List (Nat × String) := [(53, "no such word"), (62, "no such context"), (66, "no such frame"), (70, "no such host"), (83, "no such kind"), (110, "no such flush"), (118, "no such entry"), (120, "no such part of an entry")]
/-! what a throw wants of the start: words that don't keep by themselves, the texts, two statics of Throwable -/
def IOE : String := "java/lang/IndexOutOfBoundsException"
def IAE : String := "java/lang/IllegalArgumentException"
abbrev exN : List String := ["java/lang/RuntimeException", "java/lang/Exception"]
def excN : Nat → String
  | 0 => IOE
  | _ => IAE
def XW (U : State) : Prop := va_Nw (.castable IOE IOE) U ∧ va_Nw (.castable IAE IAE) U ∧ va_Nw (.declares ⟨"java/lang/RuntimeException", "<init>", "(Ljava/lang/String;)V"⟩) U ∧ va_Nw (.declares ⟨"java/lang/Exception", "<init>", "(Ljava/lang/String;)V"⟩) U ∧ va_Nw (.declares ⟨"java/lang/Throwable", "<init>", "(Ljava/lang/String;)V"⟩) U ∧ ∀ q ∈ strL, ∃ sa, vk_R RX4 q.1 q.2 sa U
def XZ (A : Nat → Prop) (U : State) (H : Heap) : Prop := vx_Zq Bundle.tN "UNASSIGNED_STACK" Bundle.steD A U H ∧ vx_Zq Bundle.tN "SUPPRESSED_SENTINEL" Bundle.listD A U H
theorem XW.warm {s U : State} (h : XW s) (hW : s.WarmedH U.vm) : XW U :=
  ⟨va_Nw.warmC hW h.1, va_Nw.warmC hW h.2.1, va_Nw.warmD hW h.2.2.1, va_Nw.warmD hW h.2.2.2.1, va_Nw.warmD hW h.2.2.2.2.1, fun q hq => by
    obtain ⟨sa, h1⟩ := h.2.2.2.2.2 q hq
    exact ⟨sa, vk_R.warm hW h1⟩⟩
theorem XW.same {s U : State} (h : XW s) (hv : s.vm = U.vm) : XW U :=
  ⟨va_Nw.same rfl hv h.1, va_Nw.same rfl hv h.2.1, va_Nw.same rfl hv h.2.2.1, va_Nw.same rfl hv h.2.2.2.1, va_Nw.same rfl hv h.2.2.2.2.1, fun q hq => by
    obtain ⟨sa, h1⟩ := h.2.2.2.2.2 q hq
    exact ⟨sa, vk_R.same hv.symm h1⟩⟩
theorem XZ.moved {A : Nat → Prop} {u U : State} {H : Heap} (hvm : u.vm.Alike U.vm) (h : XZ A u H) : XZ A U H := ⟨vx_Zq.moved hvm h.1, vx_Zq.moved hvm h.2⟩
theorem XZ.kept {A : Nat → Prop} {U : State} {H H1 : Heap} (h : XZ A U H) (hq : ∀ a : Nat, a < H.size → ¬ A a → H1[a]? = H[a]?) : XZ A U H1 := ⟨vx_Zq.kept h.1 hq, vx_Zq.kept h.2 hq⟩
theorem XZ.narrow {A B : Nat → Prop} {U : State} {H : Heap} (h : XZ A U H) (hAB : ∀ q, B q → A q) : XZ B U H := ⟨vx_Zq.narrow h.1 hAB, vx_Zq.narrow h.2 hAB⟩
def CPrX (dC : Nat → ClassId) (dI : Nat → Nat → Nat) (ws : va_W) (tys : List (ClassId × FieldType)) (sz : Nat) (U : State) : Prop := CPrQ dC dI ws tys sz U ∧ XW U ∧ XZ (va_A ws sz) U U.heap
theorem cx_blindX {dC : Nat → ClassId} {dI : Nat → Nat → Nat} {ws : va_W} {tys : List (ClassId × FieldType)} {sz : Nat} {av : List Value} : FrameBlind (va_Pc av (CPrX dC dI ws tys sz)) :=
  fun a U g mk q => by
    obtain ⟨q0, ⟨q1, ⟨qP, qK, qN⟩, qD⟩, qW, qZ⟩ := q
    exact ⟨q0, ⟨q1, ⟨qP, va_K.moved (u := U) (U := U.calling g mk a) (Vm.Alike.refl U.vm) qK, qN.same rfl⟩, qD⟩, qW.same rfl, XZ.moved (u := U) (U := U.calling g mk a) (Vm.Alike.refl U.vm) qZ⟩
/-- a contract of a method that may throw begins -/
theorem cx_ofX {l : Launch} {y : MethodName} {ws ws' : List Cond} {rm : Room} {cc : ByteArray} {maxL : Nat} {ret : Option FieldType} {argv : List Value} {B : State → Prop} {Qc : Array Value → State → Outcome → State → Prop} {XC : String → State → State → Prop} {mc ms : Nat} {free : Addr → Prop}
    (hy : plainName y.cls = true) (hw : ws = Cond.code y cc maxL ret :: ws') (hlen : (lg_sl argv).length ≤ maxL)
    (body : ∀ (p : Program) (e : Env) (s : State) (m : MethodId) (below : List Frame) (meth : Method) (c : Code) (ls : Array Slot), p.tables.exec = Jvm.exec → c.code = cc → meth.sig.returnType = ret → (∀ w ∈ ws, w.before argv.toArray s = true) → s.vm.findClass y.cls = some m.cls → meth.locks = false → c.maxLocals = maxL → (∀ x ∈ c.exceptionTable.toList, False) → lv_has ls maxL (lv_args 0 argv) → B s →
      W p l e rm s m argv.toArray below meth c s.heap [] 0 0 (vx_MQ below Qc XC argv.toArray s mc ms free) (F0 m 0 ls [])) : vx_Met l y ws rm (va_Pc argv B) Qc XC mc ms free := by
  refine vx_ofW (cc := cc) (maxL := maxL) (ret := ret) hy hw ?_
  intro p e s m args below meth c s₁ Bd hml hEx hv
  obtain ⟨rfl, hB⟩ := hv
  have hl := lv_entry argv (n := maxL) hlen
  rw [lg_entry_eq]
  exact body p e s m below meth c _ Bd.exec Bd.bytes Bd.returns (atoms_spec (ws := ws) Bd.pre) (findClass_of_methodNamed Bd.named) Bd.notSynchronized hml hEx hl hB
theorem atI_good : ∀ w ∈ (vx_atS RX4 55 IOE exN).filter goodWord, w ∈ AW := by
  intro w hw
  have h := (by decide +kernel : ((vx_atS RX4 55 IOE exN).filter goodWord).all (fun w => decide (w ∈ lw_tbl)) = true)
  exact List.mem_filter.mpr ⟨by simpa using List.all_eq_true.mp h w hw, (List.mem_filter.mp hw).2⟩
theorem atA_good : ∀ w ∈ (vx_atS RX4 68 IAE exN).filter goodWord, w ∈ AW := by
  intro w hw
  have h := (by decide +kernel : ((vx_atS RX4 68 IAE exN).filter goodWord).all (fun w => decide (w ∈ lw_tbl)) = true)
  exact List.mem_filter.mpr ⟨by simpa using List.all_eq_true.mp h w hw, (List.mem_filter.mp hw).2⟩
theorem atI_hat {args : Array Value} {s : State} (hta : ∀ w ∈ AW, w.before args s = true) (hX : XW s) : ∀ w ∈ vx_atS RX4 55 IOE exN, w.before args s = true :=
  vx_hat (B := [.castable IOE IOE, .declares ⟨"java/lang/RuntimeException", "<init>", "(Ljava/lang/String;)V"⟩, .declares ⟨"java/lang/Exception", "<init>", "(Ljava/lang/String;)V"⟩, .declares ⟨"java/lang/Throwable", "<init>", "(Ljava/lang/String;)V"⟩]) (fun w hw => hta w (atI_good w hw)) (by decide +kernel)
    (vx_c (va_Nw.use rfl hX.1) (vx_c (va_Nw.use rfl hX.2.2.1) (vx_c (va_Nw.use rfl hX.2.2.2.1) (vx_c (va_Nw.use rfl hX.2.2.2.2.1) vx_n))))
theorem atA_hat {args : Array Value} {s : State} (hta : ∀ w ∈ AW, w.before args s = true) (hX : XW s) : ∀ w ∈ vx_atS RX4 68 IAE exN, w.before args s = true :=
  vx_hat (B := [.castable IAE IAE, .declares ⟨"java/lang/RuntimeException", "<init>", "(Ljava/lang/String;)V"⟩, .declares ⟨"java/lang/Exception", "<init>", "(Ljava/lang/String;)V"⟩, .declares ⟨"java/lang/Throwable", "<init>", "(Ljava/lang/String;)V"⟩]) (fun w hw => hta w (atA_good w hw)) (by decide +kernel)
    (vx_c (va_Nw.use rfl hX.2.1) (vx_c (va_Nw.use rfl hX.2.2.1) (vx_c (va_Nw.use rfl hX.2.2.2.1) (vx_c (va_Nw.use rfl hX.2.2.2.2.1) vx_n))))
theorem atI_ot (ik : Nat) : ∀ w ∈ Cond.classLink RX4 ik IOE :: Cond.initialized IOE :: vx_atS RX4 55 IOE exN, vx_ot w = true := by
  intro w hw
  rcases List.mem_cons.mp hw with e | hw
  · rw [e]; rfl
  · exact List.all_eq_true.mp (by decide +kernel : (Cond.initialized IOE :: vx_atS RX4 55 IOE exN).all vx_ot = true) w hw
theorem atA_ot (ik : Nat) : ∀ w ∈ Cond.classLink RX4 ik IAE :: Cond.initialized IAE :: vx_atS RX4 68 IAE exN, vx_ot w = true := by
  intro w hw
  rcases List.mem_cons.mp hw with e | hw
  · rw [e]; rfl
  · exact List.all_eq_true.mp (by decide +kernel : (Cond.initialized IAE :: vx_atS RX4 68 IAE exN).all vx_ot = true) w hw
section CXX
variable {p : Program} {l : Launch} {e : Env} {R : Room} {s : State} {m : MethodId} {args : Array Value} {below : List Frame} {meth : Method} {c : Code} {H : Heap} {locs : List Loc} {cells slots : Nat} {cc : ByteArray} {pc : Nat} {ls : Array Slot} {rest : List Value} {A : Nat → Prop} {nL : Nat} {lv : List (Nat × Value)} {Qc : Array Value → State → Outcome → State → Prop} {XC : String → State → State → Prop} {free : Addr → Prop}
theorem cx_throwI (hx : p.tables.exec = Jvm.exec) (hb : c.code = cc) (hl9 : l.stackTraces = false) (hown : s.vm.findClass RX4 = some m.cls) (hta : ∀ w ∈ AW, w.before args s = true) {ik is : Nat} {text : String} (hik : .classLink RX4 ik IOE ∈ AW) (hin : .initialized IOE ∈ AW) (hst : (is, text) ∈ strL) (hXW : XW s) (hXZ : XZ A s s.heap) (hS : va_S A s.heap H locs) (hl : lv_has ls nL lv) (hml : c.maxLocals = nL)
    (d0 : decode cc pc = .ok (.new ik, 3)) (d3 : decode cc (pc + 3) = .ok (.dup, 1)) (d4 : decode cc (pc + 4) = .ok (.ldc is, 2)) (d6 : decode cc (pc + 6) = .ok (.invokespecial 55, 3)) (d9 : decode cc (pc + 9) = .ok (.athrow, 1)) (hEx : ∀ x ∈ c.exceptionTable.toList, False)
    (h1 : 5 < R.frames) (h2 : (rest.map fun v => v.category).sum + 82 ≤ R.locals) (h3 : cells + 1 ≤ R.cells) (h4 : slots + 6 ≤ R.slots) (hlocks : meth.locks = false) (hf : ∀ z ∈ locs, free z.base) (h5 : cells + 1 ≤ 1) (h6 : slots + 6 ≤ 6)
    (hq : ∀ t : State, s.vm.Alike t.vm → H.size ≤ t.heap.size → (∀ q : Nat, q < H.size → t.heap[q]? = H[q]?) → XC IOE s t) : W p l e R s m args below meth c H locs cells slots (vx_MQ below Qc XC args s 1 6 free) (F0 m pc ls rest) := by
  obtain ⟨sa, hR⟩ := hXW.2.2.2.2.2 _ hst
  exact vx_throwS (own := RX4) (cls := IOE) (names := exN) hx hb hl9 hown (by decide +kernel) (by decide +kernel) (hta _ hik) (hta _ hin) hR (atI_hat hta hXW) (atI_ot ik) hXZ.1 hXZ.2 hS (hl.1.trans hml.symm) d0 d3 d4 d6 d9 (fun x h => (hEx x h).elim) h1 h2 h3 h4 hlocks hq hf h5 h6
theorem cx_throwA (hx : p.tables.exec = Jvm.exec) (hb : c.code = cc) (hl9 : l.stackTraces = false) (hown : s.vm.findClass RX4 = some m.cls) (hta : ∀ w ∈ AW, w.before args s = true) {ik is : Nat} {text : String} (hik : .classLink RX4 ik IAE ∈ AW) (hin : .initialized IAE ∈ AW) (hst : (is, text) ∈ strL) (hXW : XW s) (hXZ : XZ A s s.heap) (hS : va_S A s.heap H locs) (hl : lv_has ls nL lv) (hml : c.maxLocals = nL)
    (d0 : decode cc pc = .ok (.new ik, 3)) (d3 : decode cc (pc + 3) = .ok (.dup, 1)) (d4 : decode cc (pc + 4) = .ok (.ldc is, 2)) (d6 : decode cc (pc + 6) = .ok (.invokespecial 68, 3)) (d9 : decode cc (pc + 9) = .ok (.athrow, 1)) (hEx : ∀ x ∈ c.exceptionTable.toList, False)
    (h1 : 5 < R.frames) (h2 : (rest.map fun v => v.category).sum + 82 ≤ R.locals) (h3 : cells + 1 ≤ R.cells) (h4 : slots + 6 ≤ R.slots) (hlocks : meth.locks = false) (hf : ∀ z ∈ locs, free z.base) (h5 : cells + 1 ≤ 1) (h6 : slots + 6 ≤ 6)
    (hq : ∀ t : State, s.vm.Alike t.vm → H.size ≤ t.heap.size → (∀ q : Nat, q < H.size → t.heap[q]? = H[q]?) → XC IAE s t) : W p l e R s m args below meth c H locs cells slots (vx_MQ below Qc XC args s 1 6 free) (F0 m pc ls rest) := by
  obtain ⟨sa, hR⟩ := hXW.2.2.2.2.2 _ hst
  exact vx_throwS (own := RX4) (cls := IAE) (names := exN) hx hb hl9 hown (by decide +kernel) (by decide +kernel) (hta _ hik) (hta _ hin) hR (atA_hat hta hXW) (atA_ot ik) hXZ.1 hXZ.2 hS (hl.1.trans hml.symm) d0 d3 d4 d6 d9 (fun x h => (hEx x h).elim) h1 h2 h3 h4 hlocks hq hf h5 h6
end CXX
