/-! what a contract of the class wants of the start: the world, the tables, the nest's links -/
def nestL : List Cond := nestF.map (fun q => .fieldLinkNest q.1 q.2.1 q.2.2.1 q.2.2.2.1 q.2.2.2.2.1 q.2.2.2.2.2) ++ nestM.map (fun q => .methodLinkNest q.1 q.2.1 q.2.2.1 q.2.2.2)
def NX (U : State) : Prop := ∀ w ∈ nestL, va_Nw w U
theorem nestL_on : ∀ w ∈ nestL, w.onTables = true := by
  intro w hw
  rcases List.mem_append.mp hw with h | h
  · obtain ⟨q, -, rfl⟩ := List.mem_map.mp h
    rfl
  · obtain ⟨q, -, rfl⟩ := List.mem_map.mp h
    rfl
theorem NX.f {U : State} (h : NX U) {args : Array Value} (w : Cond) (hm : w ∈ nestL) : w.before args U = true := va_Nw.use (nestL_on w hm) (h w hm)
theorem NX.nf {U : State} (h : NX U) {args : Array Value} (i : Nat) {a r n d hst : String} {k : Nat} (hi : nestF[i]? = some (a, k, r, n, d, hst)) : (Cond.fieldLinkNest a k r n d hst).before args U = true :=
  h.f _ (List.mem_append_left _ (List.mem_map.mpr ⟨_, List.mem_of_getElem? hi, rfl⟩))
theorem NX.nm {U : State} (h : NX U) (i : Nat) {a hst : String} {k : Nat} {y : MethodName} (hi : nestM[i]? = some (a, k, y, hst)) : va_Nw (.methodLinkNest a k y hst) U :=
  h _ (List.mem_append_right _ (List.mem_map.mpr ⟨_, List.mem_of_getElem? hi, rfl⟩))
theorem NX.m {U : State} (h : NX U) (w : Cond) (hm : w ∈ nestL) : va_Nw w U := h w hm
theorem NX.warm {s U : State} (h : NX s) (hW : s.WarmedH U.vm) : NX U := by
  intro w hw
  have h0 := h w hw
  rcases List.mem_append.mp hw with h1 | h1
  · obtain ⟨q, -, rfl⟩ := List.mem_map.mp h1
    exact va_Nw.warmF hW h0
  · obtain ⟨q, -, rfl⟩ := List.mem_map.mp h1
    exact va_Nw.warmM hW h0
theorem NX.same {s U : State} (h : NX s) (hv : s.vm = U.vm) : NX U := fun w hw => va_Nw.same (nestL_on w hw) hv (h w hw)
def CPre (dC : Nat → ClassId) (dI : Nat → Nat → Nat) (ws : va_W) (tys : List (ClassId × FieldType)) (U : State) : Prop := va_P (dC, dI) vwCl ws U.heap ∧ va_K (dC, dI) vwCl tys U ∧ NX U
def CPrQ (dC : Nat → ClassId) (dI : Nat → Nat → Nat) (ws : va_W) (tys : List (ClassId × FieldType)) (sz : Nat) (U : State) : Prop := U.heap.size = sz ∧ CPre dC dI ws tys U ∧ va_D (fun _ => True) ws
theorem cx_blindS {dC : Nat → ClassId} {dI : Nat → Nat → Nat} {ws : va_W} {tys : List (ClassId × FieldType)} {av : List Value} : FrameBlind (va_Pc av (CPre dC dI ws tys)) :=
  fun a U g mk q => by
    obtain ⟨q0, qP, qK, qN⟩ := q
    exact ⟨q0, qP, va_K.moved (u := U) (U := U.calling g mk a) (Vm.Alike.refl U.vm) qK, qN.same rfl⟩
theorem cx_blindQ {dC : Nat → ClassId} {dI : Nat → Nat → Nat} {ws : va_W} {tys : List (ClassId × FieldType)} {sz : Nat} {av : List Value} : FrameBlind (va_Pc av (CPrQ dC dI ws tys sz)) :=
  fun a U g mk q => by
    obtain ⟨q0, q1, ⟨qP, qK, qN⟩, qD⟩ := q
    exact ⟨q0, q1, ⟨qP, va_K.moved (u := U) (U := U.calling g mk a) (Vm.Alike.refl U.vm) qK, qN.same rfl⟩, qD⟩
section CXP
variable {s : State} {H : Heap} {dC : Nat → ClassId} {dI : Nat → Nat → Nat} {ws : va_W} {tys : List (ClassId × FieldType)} {As : List Value} {b : Addr} {C : String} {A : Nat → Prop}
theorem cx_preVS (hK : va_K (dC, dI) vwCl tys s) (hP : va_P (dC, dI) vwCl ws H) (hN : NX s) (rc : ∃ cellB : Cell, H[b]? = some cellB ∧ cellB.vm.isStatics = false ∧ s.vm.findClass C = some cellB.cls) : PreV s H C b (va_Pc (.ref b :: As) (CPre dC dI ws tys)) As :=
  ⟨cx_blindS, rc, fun U hU hW => ⟨rfl, by rw [hU]; exact hP, va_K.moved hW.alike hK, hN.warm hW⟩⟩
theorem cx_preSS (hK : va_K (dC, dI) vwCl tys s) (hP : va_P (dC, dI) vwCl ws H) (hN : NX s) : PreS s H (va_Pc As (CPre dC dI ws tys)) As :=
  ⟨cx_blindS, fun U hU hW => ⟨rfl, by rw [hU]; exact hP, va_K.moved hW.alike hK, hN.warm hW⟩⟩
theorem cx_preVQ (hK : va_K (dC, dI) vwCl tys s) (hP : va_P (dC, dI) vwCl ws H) (hN : NX s) (rc : ∃ cellB : Cell, H[b]? = some cellB ∧ cellB.vm.isStatics = false ∧ s.vm.findClass C = some cellB.cls) (hD : va_D A ws) : PreV s H C b (va_Pc (.ref b :: As) (CPrQ dC dI ws tys H.size)) As :=
  ⟨cx_blindQ, rc, fun U hU hW => ⟨rfl, by rw [hU], ⟨by rw [hU]; exact hP, va_K.moved hW.alike hK, hN.warm hW⟩, hD.weaken (fun _ _ _ _ => trivial)⟩⟩
theorem cx_preSQ (hK : va_K (dC, dI) vwCl tys s) (hP : va_P (dC, dI) vwCl ws H) (hN : NX s) (hD : va_D A ws) : PreS s H (va_Pc As (CPrQ dC dI ws tys H.size)) As :=
  ⟨cx_blindQ, fun U hU hW => ⟨rfl, by rw [hU], ⟨by rw [hU]; exact hP, va_K.moved hW.alike hK, hN.warm hW⟩, hD.weaken (fun _ _ _ _ => trivial)⟩⟩
end CXP
theorem cx_recvP {D : va_G} {cl : List vw_C} {X : va_W} {LP : List Nat} {f : Nat → va_E} {H : Heap} {s : State} {tys : List (ClassId × FieldType)} {ci y : Nat} {fs : List Value} {q : vw_C} (hK : va_K D cl tys s) (hP : va_P D cl (X ++ va_pl LP f) H) (hm : y ∈ LP) (hc : cl[ci]? = some q) (hf : f y = .inr (ci, fs)) : ∃ cell : Cell, H[y]? = some cell ∧ cell.vm.isStatics = false ∧ s.vm.findClass q.1 = some cell.cls := by
  obtain ⟨k, hk⟩ := va_pl_get (X := X) (f := f) hm
  rw [hf] at hk
  exact va_recv hK hP hc hk
section CXA
variable {p : Program} {l : Launch} {e : Env} {R : Room} {s : State} {m : MethodId} {args : Array Value} {below : List Frame} {meth : Method} {c : Code} {H : Heap} {locs : List Loc} {cells slots : Nat} {Q : State → Prop} {cc : ByteArray} {pc : Nat} {ls : Array Slot} {rest : List Value} {D : va_G} {cl : List vw_C} {A : Nat → Prop} {a : Nat} {tys : List (ClassId × FieldType)} {ws : va_W} {H0 : Heap}
theorem cx_aald (hexec : p.tables.exec = Jvm.exec) (hb : c.code = cc) (hK : va_K D cl tys s) (hP : va_P D cl ws H) (q0 t0 : Nat) {cA : ClassId} {C : String} {n : Nat} {f : Nat → Option Nat} (ha : ws[q0]? = some (a, .inl (cA, n, .inr (.inr (.inr (.inr f)))))) (ht : tys[t0]? = some (cA, .object C)) {i : Int32} (hin : vp_in i n) {y : Nat} (hy : f i.toNatClampNeg = some y) (hdg : decode cc pc = .ok (.aaload, 1))
    (kk : W p l e R s m args below meth c H locs cells slots Q (F0 m (pc + 1) ls (.ref y :: rest))) : W p l e R s m args below meth c H locs cells slots Q (F0 m pc ls (.int i :: .ref a :: rest)) :=
  va_aldq hexec hb hK hP q0 t0 ha ht hin hdg (by rw [hy]; exact kk)
end CXA
/-- an entry's cell: its six numbers by their places -/
abbrev CEf (E : Nat → Nat → Int32) : Nat → va_E := fun y => .inr (1, [.int (E 0 y), .int (E 1 y), .int (E 2 y), .int (E 3 y), .int (E 4 y), .int (E 5 y)])
abbrev CWx (a : Nat → Nat) (k : Nat → ClassId) (N : Nat) (L : Nat) (f1 f2 f3 f4 f5 f6 f7 f8 : Int32) (rd : Nat) (f10 f11 f12 : Int32) (n : Nat) (f14 : Int32) (lf : Int64) (wd : Nat → Int64) (ho ro pa : Nat → Int32) (rs : Nat → Option Nat) : va_W :=
  [(a 0, .inr (4, [.int (nI L), .ref (a 1), .ref (a 4), .ref (a 6), .ref (a 8), .int f1, .int f2, .int f3, .int f4, .int f5, .int f6, .int f7])),
   (a 1, .inr (2, [.ref (a 2), .ref (a 3), .int f8])),
   (a 2, .inl (k 0, 4096, .inr (.inl wd))),
   (a 3, .inl (k 1, 256, .inl ho)),
   (a 4, .inr (3, [.ref (a 1), .int (nI L), .ref (a 5), .int (nI rd), .long lf, .int f10, .int f11, .int f12])),
   (a 5, .inl (k 2, 4, .inl pa)),
   (a 6, .inr (0, [.ref (a 7), .int (nI n), .int f14])),
   (a 7, .inl (k 3, N, .inr (.inr (.inr (.inr rs))))),
   (a 8, .inl (k 4, 4, .inl ro))]
/-- THE CLASS'S WORLD: nine cells, and the entries at LP -/
abbrev CWl (a : Nat → Nat) (k : Nat → ClassId) (LP : List Nat) (N : Nat) (L : Nat) (f1 f2 f3 f4 f5 f6 f7 f8 : Int32) (rd : Nat) (f10 f11 f12 : Int32) (n : Nat) (f14 : Int32) (lf : Int64) (wd : Nat → Int64) (ho ro pa : Nat → Int32) (rs : Nat → Option Nat) (E : Nat → Nat → Int32) : va_W := CWx a k N L f1 f2 f3 f4 f5 f6 f7 f8 rd f10 f11 f12 n f14 lf wd ho ro pa rs ++ va_pl LP (CEf E)
def setE (E : Nat → Nat → Int32) (j y : Nat) (v : Int32) : Nat → Nat → Int32 := va_up E j (upd (E j) y v)
theorem CEf_set (E : Nat → Nat → Int32) (y : Nat) (v : Int32) : ∀ j, j < 6 → va_up (CEf E) y (.inr (1, ([.int (E 0 y), .int (E 1 y), .int (E 2 y), .int (E 3 y), .int (E 4 y), .int (E 5 y)] : List Value).set j (.int v))) = CEf (setE E j y v) := by
  intro j hj
  funext z
  by_cases hz : z = y
  · subst hz
    rcases (show j = 0 ∨ j = 1 ∨ j = 2 ∨ j = 3 ∨ j = 4 ∨ j = 5 by omega) with rfl | rfl | rfl | rfl | rfl | rfl <;> simp [va_up, CEf, upd, setE]
  · have e1 : ∀ i, (setE E j y v) i z = E i z := by
      intro i
      by_cases hi : i = j
      · subst hi
        simp [setE, va_up, upd, hz]
      · simp [setE, va_up, hi]
    simp only [va_up_ne _ _ hz, CEf, e1]
section CXE
variable {p : Program} {l : Launch} {e : Env} {R : Room} {s : State} {m : MethodId} {args : Array Value} {below : List Frame} {meth : Method} {c : Code} {H : Heap} {locs : List Loc} {cells slots : Nat} {Q : State → Prop} {cc : ByteArray} {pc : Nat} {ls : Array Slot} {rest : List Value} {D : va_G} {A : Nat → Prop} {tys : List (ClassId × FieldType)} {H0 : Heap}
theorem cx_putEN (hexec : p.tables.exec = Jvm.exec) (hb : c.code = cc) {own ref host : String} {index : Nat} {Ts : List Cond} {X : va_W} {LP : List Nat} {E : Nat → Nat → Int32} {y : Nat} (hts : ∀ w ∈ Ts, w.before args s = true) (hin : ∀ w ∈ u_ws RX1 TX1 6, w ∈ Ts) (hown : s.vm.findClass own = some m.cls) (hK : va_K D vwCl tys s) (hP : va_P D vwCl (X ++ va_pl LP (CEf E)) H) (hD : va_D A (X ++ va_pl LP (CEf E))) (hS0 : va_S A H0 H locs) (hm : y ∈ LP) (j : Nat) (hj : j < 6)
    (hlink : (Cond.fieldLinkNest own index ref (TX1 j).2.1 (TX1 j).2.2.1 host).before args s = true) (hsame : ∀ x, s.fieldFound? (TX1 j).1 (TX1 j).2.1 (TX1 j).2.2.1 = some x → s.fieldFound? ref (TX1 j).2.1 (TX1 j).2.2.1 = some x) (hfin : (TX1 j).2.2.2 = false) {ty : FieldType} {v : Int32} (hd : parseFieldDescriptor (TX1 j).2.2.1 = some ty) (hn : narrow ty (.int v) = .int v) (hfit : fits ty (.int v) = true) (hdg : decode cc pc = .ok (.putfield index, 3))
    (kk : ∀ (H1 : Heap) (locs1 : List Loc), va_P D vwCl (X ++ va_pl LP (CEf (setE E j y v))) H1 → va_D A (X ++ va_pl LP (CEf (setE E j y v))) → va_S A H0 H1 locs1 → W p l e R s m args below meth c H1 locs1 cells slots Q (F0 m (pc + 3) ls rest)) : W p l e R s m args below meth c H locs cells slots Q (F0 m pc ls (.int v :: .ref y :: rest)) := by
  obtain ⟨k, hk⟩ := va_pl_get (X := X) (f := CEf E) hm
  refine va_putN (ci := 1) hexec hb hts hin tyX1 tyX1_ok nmX1 hown hK hP hD hS0 k hk rfl j hj hlink hsame hfin hd hn hfit hj hdg (fun H1 locs1 hP1 hD1 hS1 => ?_)
  rw [va_pl_set hD hm hk, CEf_set E y v j hj] at hP1 hD1
  exact kk H1 locs1 hP1 hD1 hS1
end CXE
