def R_law : String := "PageRowsLaw"
def lw_P (b : Addr) (xs : List Int32) (args : Array Value) (s : State) : Prop := args = #[.ref b] ∧ s.IntsAt b xs ∧ xs.length ≤ 2050 ∧ (Jvm.Cond.and given_1 narrow_1).before args s = true
def lw_Q (_ : Array Value) (s : State) (o : Outcome) (t : State) : Prop := o = .returned (some (.int 1)) ∧ Framed s o t [] 601024 7292999
def lw_Z (below : List Frame) (a : Array Value) (s : State) : State → Prop := fun t => ∃ o, t.status = .running ∧ Ended t below o ∧ lw_Q a s o t
/-- the law's own end, with 1 on the stack, nothing written that was there before, its room as the claim has it -/
theorem lw_ret {p : Program} {l : Launch} {e : Env} {s : State} {m : MethodId} {below : List Frame} {meth : Method} {c : Code} {b : Nat} (hx : p.tables.exec = Jvm.exec) (hb : c.code = code) (hr : meth.sig.returnType = ret) (hlocks : meth.locks = false) {pc : Nat} {H : Heap} {ls : Array Slot} (hdg : decode code pc = .ok (.ireturn, 1)) : W p l e room_1 s m #[Value.ref b] below meth c H [] 601024 7292999 (lw_Z below #[Value.ref b] s) (F0 m pc ls [.int 1]) := by
  intro T hT X
  obtain ⟨fs, hret, hrun, hended, hW, hframe⟩ := X.leave (v := some (.int 1)) (hlocks := hlocks) (fun h => by rw [hr] at h; cases h)
  have hmeth' : T.vm.method? m = some meth := X.method'
  refine ⟨T.setFrames fs, ?_, .returned (some (.int 1)), hrun, hended, rfl, ⟨_, rfl⟩, hW, hframe⟩
  jvm_step X.here [X.here.top, hx, hb, hdg, hmeth', hr, ret, narrow_b1]
  (try refine ⟨rfl, ?_⟩); (try refine ⟨rfl, ?_⟩)
  first | (intro acts; rw [hret _ acts rfl rfl rfl]) | rw [hret _ _ rfl rfl rfl]
  exact Steps.refl _
/-- what holds at the law's entry: the machine, the code, the tables' words (any of lw_tbl by 'hts w (by decide +kernel)'), the script of L ints xs at the cell b, what the Statement gives of the start (any of its parts by flat_of_before) -/
def lw_At (p : Program) (s : State) (m : MethodId) (meth : Method) (c : Code) (b L : Nat) (xs : Nat → Int32) : Prop :=
  p.tables.exec = Jvm.exec ∧ c.code = code ∧ meth.sig.returnType = ret ∧ c.maxLocals = 8 ∧ s.vm.findClass R_law = some m.cls ∧ (∀ w ∈ lw_tbl, w.before #[Value.ref b] s = true) ∧ va_X b L xs s s.heap ∧ b < s.heap.size ∧ meth.locks = false ∧ (Jvm.Cond.and given_1 narrow_1).before #[Value.ref b] s = true
def LC (p : Program) (l : Launch) (e : Env) (s : State) (m : MethodId) (below : List Frame) (meth : Method) (c : Code) (dC : Nat → ClassId) (dI : Nat → Nat → Nat) (b Ls : Nat) (xs : Nat → Int32) (o : Nat) (ko : ClassId) (a : Nat → Nat) (k : Nat → ClassId) (LP : List Nat) (N L : Nat) (ga : Nat → Nat) (gk : Nat → ClassId) : Prop :=
  p.tables.exec = Jvm.exec ∧ c.code = cL_law ∧ meth.sig.returnType = ret ∧ c.maxLocals = 8 ∧ s.vm.findClass RL = some m.cls ∧ (∀ w ∈ AW, w.before #[Value.ref b] s = true) ∧ va_X b Ls xs s s.heap ∧ b < s.heap.size ∧ meth.locks = false ∧ NX s ∧ va_K (dC, dI) vwCl ([(gk 0, .long), (gk 1, .int), (gk 2, .int), (gk 3, .int), (gk 4, .int), (gk 5, .int), (gk 6, .int), (gk 7, .int), (gk 8, .int), (gk 9, .boolean), (gk 10, .int)] ++ ((ko, .long) :: [(k 0, .long), (k 1, .int), (k 2, .int), (k 3, .object "PageRows$Entry"), (k 4, .int)])) s ∧ XW s ∧ XZ (fun q : Nat => s.heap.size ≤ q) s s.heap ∧ va_Nc IAE IOE s ∧ l.stackTraces = false ∧ Ls ≤ 2050
def LoopAt (p : Program) (l : Launch) (e : Env) (s : State) (m : MethodId) (below : List Frame) (meth : Method) (c : Code) (dC : Nat → ClassId) (dI : Nat → Nat → Nat) (b Ls : Nat) (xs : Nat → Int32) (o : Nat) (ko : ClassId) (a : Nat → Nat) (k : Nat → ClassId) (LP : List Nat) (N L : Nat) (ga : Nat → Nat) (gk : Nat → ClassId) (i : Nat) : Prop :=
  ∀ (th : Int32) (f1 : Int32) (f2 : Int32) (f3 : Int32) (f4 : Int32) (f5 : Int32) (f6 : Int32) (f7 : Int32) (f8 : Int32) (rd : Nat) (f10 : Int32) (f11 : Int32) (f12 : Int32) (n : Nat) (f14 : Int32) (lf : Int64) (wd : Nat → Int64) (ho : Nat → Int32) (ro : Nat → Int32) (pa : Nat → Int32) (rs : Nat → Option Nat) (E : Nat → Nat → Int32) (ov : Nat → Int64) (us : Nat) (eC : Nat → Int32) (eL : Nat → Int32) (eB : Nat → Int32) (eF : Nat → Int32) (eR : Nat → Int32) (eU : Nat → Int32) (eX : Nat → Int32) (ff : Int32) (fa : Int32) (mn : Nat) (lg : Int32) (cm : Int32) (wa : Nat → Int32) (H : Heap) (locs : List Loc) (ls : Array Slot), us ≤ i → LREL L N LP f1 f8 ho ro n rs E us eC eL eB eF eR eU eX → va_P (dC, dI) vwCl (((MWl ga gk th L N wd f1 ro ho f8 n us eC eL eB eF eR eU eX f2 f3 f4 f5 f6 f7 f14 ff fa mn lg cm wa) ++ (OWx o ko ov a k N L f1 f2 f3 f4 f5 f6 f7 f8 rd f10 f11 f12 n f14 lf wd ho ro pa rs)) ++ (va_pl LP (CEf E))) H → va_D (fun q : Nat => s.heap.size ≤ q) (((MWl ga gk th L N wd f1 ro ho f8 n us eC eL eB eF eR eU eX f2 f3 f4 f5 f6 f7 f14 ff fa mn lg cm wa) ++ (OWx o ko ov a k N L f1 f2 f3 f4 f5 f6 f7 f8 rd f10 f11 f12 n f14 lf wd ho ro pa rs)) ++ (va_pl LP (CEf E))) → va_S (fun q : Nat => s.heap.size ≤ q) s.heap H locs → lv_has ls 8 [(0, .ref b), (1, .ref (a 0)), (2, .ref (ga 0)), (3, .ref o), (4, .int (nI i))] → W p l e room_1 s m #[Value.ref b] below meth c H locs (100 + i) (20000 + 6 * i) (lw_Z below #[Value.ref b] s) (F0 m 43 ls [])
theorem lgc {x y : Int64} (h : x = y) : lg_cmp x y = 0 := by
  subst h
  unfold lg_cmp
  simp
theorem law_go {Ls i : Nat} (hLs : Ls ≤ 2050) (h : ¬ (Int32.ofNat Ls - (4 : Int32)) < nI i) (hi : i ≤ 4000) : i + 4 ≤ Ls := by
  rcases Nat.lt_or_ge Ls 4 with q | q
  · exfalso
    apply h
    have h1 : nI Ls - nI 4 < 0 := pk_sneg (by decide) q
    exact Int32.lt_of_lt_of_le h1 (nI_pos' (by omega))
  · have e1 : (Int32.ofNat Ls - (4 : Int32)) = nI (Ls - 4) := pk_sub (a := Ls) (b := 4) q
    rw [e1] at h
    have := mt (nI_ltI (by omega) (by omega)).mpr h
    omega
