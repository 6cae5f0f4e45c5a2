abbrev OWx (o : Nat) (ko : ClassId) (ov : Nat → Int64) (a : Nat → Nat) (k : Nat → ClassId) (N : Nat) (L : Nat) (f1 f2 f3 f4 f5 f6 f7 f8 : Int32) (rd : Nat) (f10 f11 f12 : Int32) (n : Nat) (f14 : Int32) (lf : Int64) (wd : Nat → Int64) (ho ro pa : Nat → Int32) (rs : Nat → Option Nat) : va_W := (o, .inl (ko, 1, .inr (.inl ov))) :: CWx a k N L f1 f2 f3 f4 f5 f6 f7 f8 rd f10 f11 f12 n f14 lf wd ho ro pa rs
abbrev OWl (o : Nat) (ko : ClassId) (ov : Nat → Int64) (a : Nat → Nat) (k : Nat → ClassId) (LP : List Nat) (N : Nat) (L : Nat) (f1 f2 f3 f4 f5 f6 f7 f8 : Int32) (rd : Nat) (f10 f11 f12 : Int32) (n : Nat) (f14 : Int32) (lf : Int64) (wd : Nat → Int64) (ho ro pa : Nat → Int32) (rs : Nat → Option Nat) (E : Nat → Nat → Int32) : va_W := OWx o ko ov a k N L f1 f2 f3 f4 f5 f6 f7 f8 rd f10 f11 f12 n f14 lf wd ho ro pa rs ++ va_pl LP (CEf E)
/-- a contract of a method with an exception table begins -/
theorem cx_ofT {l : Launch} {y : MethodName} {ws ws' : List Cond} {rm : Room} {cc : ByteArray} {maxL : Nat} {ret : Option FieldType} {hh : List (Nat × Nat × Nat × Nat)} {argv : List Value} {B : State → Prop} {Qc : Array Value → State → Outcome → State → Prop} {mc ms : Nat} {free : Addr → Prop}
    (hy : plainName y.cls = true) (hw : ws = Cond.codeWith y cc maxL ret hh :: ws') (hlen : (lg_sl argv).length ≤ maxL)
    (body : ∀ (p : Program) (e : Env) (s : State) (m : MethodId) (below : List Frame) (meth : Method) (c : Code) (ls : Array Slot), p.tables.exec = Jvm.exec → c.code = cc → meth.sig.returnType = ret → (∀ w ∈ ws, w.before argv.toArray s = true) → s.vm.findClass y.cls = some m.cls → meth.locks = false → c.maxLocals = maxL → c.exceptionTable.toList = tableOf hh → lv_has ls maxL (lv_args 0 argv) → B s →
      W p l e rm s m argv.toArray below meth c s.heap [] 0 0 (MQ below Qc argv.toArray s mc ms free) (F0 m 0 ls [])) : Met l y ws rm (va_Pc argv B) Qc mc ms free := by
  refine va_MetW (cc := cc) (maxL := maxL) (ret := ret) (hh := hh) hy hw ?_
  intro p e s m args below meth c s₁ Bd hml hv
  obtain ⟨rfl, hB⟩ := hv
  have hl := lv_entry argv (n := maxL) hlen
  rw [lg_entry_eq]
  exact body p e s m below meth c _ Bd.exec Bd.bytes Bd.returns (atoms_spec (ws := ws) Bd.pre) (findClass_of_methodNamed Bd.named) Bd.notSynchronized hml (vx_table (x := y) Bd (atoms_spec (ws := ws) Bd.pre _ (by rw [hw]; exact List.mem_cons_self))) hl hB
def CPrL (dC : Nat → ClassId) (dI : Nat → Nat → Nat) (ws : va_W) (tys : List (ClassId × FieldType)) (sz : Nat) (U : State) : Prop := CPrX dC dI ws tys sz U ∧ va_Nc IAE IOE U
theorem cx_blindL {dC : Nat → ClassId} {dI : Nat → Nat → Nat} {ws : va_W} {tys : List (ClassId × FieldType)} {sz : Nat} {av : List Value} : FrameBlind (va_Pc av (CPrL dC dI ws tys sz)) :=
  fun a U g mk q => by
    obtain ⟨q0, ⟨⟨q1, ⟨qP, qK, qN⟩, qD⟩, qW, qZ⟩, qC⟩ := q
    exact ⟨q0, ⟨⟨q1, ⟨qP, va_K.moved (u := U) (U := U.calling g mk a) (Vm.Alike.refl U.vm) qK, qN.same rfl⟩, qD⟩, qW.same rfl, XZ.moved (u := U) (U := U.calling g mk a) (Vm.Alike.refl U.vm) qZ⟩, va_Nc.moved (u := U) (U := U.calling g mk a) (Vm.Alike.refl U.vm) qC⟩
section CXL
variable {s : State} {H : Heap} {dC : Nat → ClassId} {dI : Nat → Nat → Nat} {ws : va_W} {tys : List (ClassId × FieldType)} {As : List Value} {b : Addr} {C : String} {A A0 : Nat → Prop} {locs : List Loc}
theorem cx_xz (hXZ : XZ A0 s s.heap) (hS : va_S A0 s.heap H locs) (hF : ∀ q, va_A ws H.size q → A0 q) : XZ (va_A ws H.size) s H := (hXZ.kept hS.2.1).narrow hF
theorem cx_preVX (hK : va_K (dC, dI) vwCl tys s) (hP : va_P (dC, dI) vwCl ws H) (hN : NX s) (rc : ∃ cellB : Cell, H[b]? = some cellB ∧ cellB.vm.isStatics = false ∧ s.vm.findClass C = some cellB.cls) (hD : va_D A ws) (hXW : XW s) (hZ : XZ (va_A ws H.size) s H) : PreV s H C b (va_Pc (.ref b :: As) (CPrX dC dI ws tys H.size)) As :=
  ⟨cx_blindX, rc, fun U hU hW => ⟨rfl, ⟨by rw [hU], ⟨by rw [hU]; exact hP, va_K.moved hW.alike hK, hN.warm hW⟩, hD.weaken (fun _ _ _ _ => trivial)⟩, hXW.warm hW, by rw [hU]; exact hZ.moved hW.alike⟩⟩
theorem cx_preSL (hK : va_K (dC, dI) vwCl tys s) (hP : va_P (dC, dI) vwCl ws H) (hN : NX s) (hD : va_D A ws) (hXW : XW s) (hZ : XZ (va_A ws H.size) s H) (hC : va_Nc IAE IOE s) : PreS s H (va_Pc As (CPrL dC dI ws tys H.size)) As :=
  ⟨cx_blindL, fun U hU hW => ⟨rfl, ⟨⟨by rw [hU], ⟨by rw [hU]; exact hP, va_K.moved hW.alike hK, hN.warm hW⟩, hD.weaken (fun _ _ _ _ => trivial)⟩, hXW.warm hW, by rw [hU]; exact hZ.moved hW.alike⟩, va_Nc.moved hW.alike hC⟩⟩
end CXL
def mL_table (ov : Nat → Int64) (wd : Nat → Int64) (p0 : Int32) (p1 : Int64) : Int32 × (Nat → Int64) × (Nat → Int64) :=
  match mX4_table wd p0 p1 with
  | .inl _ => (1, ov, wd)
  | .inr (r, wd') => (0, vp_updL ov 0 r, wd')
theorem thr_table {wd : Nat → Int64} {p0 : Int32} {p1 : Int64} {u : Nat} (h : (.inl u : Nat ⊕ (Int64 × (Nat → Int64))) = mX4_table wd p0 p1) : u = 0 := by
  unfold mX4_table at h
  revert h
  repeat' split
  all_goals (intro h; first | (cases h; rfl) | (cases h))
set_option maxHeartbeats 4000000 in
set_option maxRecDepth 100000 in
theorem c_L_table (l : Launch) (hl9 : l.stackTraces = false) (dC : Nat → ClassId) (dI : Nat → Nat → Nat) (o : Nat) (ko : ClassId) (ov : Nat → Int64) (a : Nat → Nat) (k : Nat → ClassId) (LP : List Nat) (N : Nat) (L : Nat) (f1 f2 f3 f4 f5 f6 f7 f8 : Int32) (rd : Nat) (f10 f11 f12 : Int32) (n : Nat) (f14 : Int32) (lf : Int64) (wd : Nat → Int64) (ho ro pa : Nat → Int32) (rs : Nat → Option Nat) (E : Nat → Nat → Int32) (sz : Nat) (p0 : Int32) (p1 : Int64)  : Met l yL_table (wL_table :: AW) ({ frames := 7, cells := 1, slots := 6, locals := 116 }) (va_Pc [.ref (a 0), .int p0, .long p1, .ref o] (CPrL dC dI (OWl o ko ov a k LP N L f1 f2 f3 f4 f5 f6 f7 f8 rd f10 f11 f12 n f14 lf wd ho ro pa rs E) ((ko, .long) :: [(k 0, .long), (k 1, .int), (k 2, .int), (k 3, .object "PageRows$Entry"), (k 4, .int)]) sz)) (va_Qi (fun (r : Int32) (u : (Nat → Int64) × (Nat → Int64)) => (r, u) = mL_table ov wd p0 p1) (fun (u : (Nat → Int64) × (Nat → Int64)) (t : State) => match u with | (ov', wd') => va_P (dC, dI) vwCl (OWl o ko ov' a k LP N L f1 f2 f3 f4 f5 f6 f7 f8 rd f10 f11 f12 n f14 lf wd' ho ro pa rs E) t.heap ∧ va_K (dC, dI) vwCl ((ko, .long) :: [(k 0, .long), (k 1, .int), (k 2, .int), (k 3, .object "PageRows$Entry"), (k 4, .int)]) t ∧ va_D (va_A (OWl o ko ov a k LP N L f1 f2 f3 f4 f5 f6 f7 f8 rd f10 f11 f12 n f14 lf wd ho ro pa rs E) sz) (OWl o ko ov' a k LP N L f1 f2 f3 f4 f5 f6 f7 f8 rd f10 f11 f12 n f14 lf wd' ho ro pa rs E)) (va_A (OWl o ko ov a k LP N L f1 f2 f3 f4 f5 f6 f7 f8 rd f10 f11 f12 n f14 lf wd ho ro pa rs E) sz)) 1 6 (va_A (OWl o ko ov a k LP N L f1 f2 f3 f4 f5 f6 f7 f8 rd f10 f11 f12 n f14 lf wd ho ro pa rs E) sz) := by
  refine cx_ofT (cc := cL_table) (maxL := 6) (ret := some .int) (hh := [(0, 10, 13, 13)]) (by decide) rfl (Nat.le_of_ble_eq_true rfl) ?_
  intro p e s m below meth c ls hx hb hr hts hown hlocks hml hTab hl hB
  have hta : ∀ w ∈ AW, w.before [.ref (a 0), .int p0, .long p1, .ref o].toArray s = true := fun w h => hts w (List.mem_cons_of_mem _ h)
  have hl : lv_has ls 6 [(0, .ref (a 0)), (1, .int p0), (2, .long p1), (4, .ref o)] := hl
  have hown : s.vm.findClass RL = some m.cls := hown
  obtain ⟨⟨⟨rfl, ⟨hP, hK, hN⟩, hD0⟩, hXW, hXZ⟩, hNc⟩ := hB
  have hD := hD0.self (sz := s.heap.size)
  generalize hAe : va_A (OWl o ko ov a k LP N L f1 f2 f3 f4 f5 f6 f7 f8 rd f10 f11 f12 n f14 lf wd ho ro pa rs E) s.heap.size = A at hD hXZ ⊢
  have hA : ∀ q : Nat, s.heap.size ≤ q → A q := fun q h => by rw [← hAe]; exact Or.inr h
  have hS : va_S A s.heap s.heap [] := va_S.rf
  refine lv_aload hx hb dL_table_0 (lv_at hl 3 rfl) ?_
  refine lv_iconst (v := 0) hx hb dL_table_2 (by decide) ?_
  refine lv_aload_n hx hb dL_table_3 rfl (lv_at hl 0 rfl) ?_
  refine lv_iload_n hx hb dL_table_4 rfl (lv_at hl 1 rfl) ?_
  refine lv_lload_n hx hb dL_table_5 rfl (lv_at hl 2 rfl) ?_
  have hPc := va_P.part (cx := (CWx a k N L f1 f2 f3 f4 f5 f6 f7 f8 rd f10 f11 f12 n f14 lf wd ho ro pa rs)) hP [1, 2, 3, 4, 5, 6, 7, 8, 9] rfl
  have hDc := va_D.part (cx := (CWx a k N L f1 f2 f3 f4 f5 f6 f7 f8 rd f10 f11 f12 n f14 lf wd ho ro pa rs)) hD [1, 2, 3, 4, 5, 6, 7, 8, 9] (by decide) rfl
  have hKc := hK.sub (tys' := [(k 0, .long), (k 1, .int), (k 2, .int), (k 3, .object "PageRows$Entry"), (k 4, .int)]) [1, 2, 3, 4, 5] rfl
  have hFc := va_freeP (cx := (CWx a k N L f1 f2 f3 f4 f5 f6 f7 f8 rd f10 f11 f12 n f14 lf wd ho ro pa rs)) hD hS hA [1, 2, 3, 4, 5, 6, 7, 8, 9] rfl
  refine vx_calll (vx_runV (As := [.int p0, .long p1]) (rest := [.int (0 : Int32), .ref o]) ⟨hx, hb, hml, hown, hta⟩ (c_X4_table l hl9 dC dI a k LP N L f1 f2 f3 f4 f5 f6 f7 f8 rd f10 f11 f12 n f14 lf wd ho ro pa rs E s.heap.size p0 p1) (cwV 2 hta (gV aw_232 aw_233 aw_234 aw_38 aw_235) rfl rfl rfl (by decide +kernel) ⟨Nat.le_of_ble_eq_true rfl, Nat.le_of_ble_eq_true rfl⟩) (cx_preVX hKc hPc hN (va_recv hKc hPc (ci := 4) (q0 := 0) rfl rfl) hDc hXW (cx_xz hXZ hS hFc)) rfl rfl hl.1 rfl (lv_room (Nat.le_of_ble_eq_true rfl)) dL_table_6 ⟨Nat.le_of_ble_eq_true rfl, Nat.le_of_ble_eq_true rfl⟩) hS (fun q _ h => hFc q h) hFc (fun q _ h => hFc q h) (fun E9 ce q9 u t9 H1 locs ht hvm hw hB hz1 hk1 hS hce hcv hcl => ?_) (fun r9 u t9 H1 locs ht hvm hw hB hz1 hk1 hS => ?_)
  · obtain ⟨rfl, hP1, hK1, hD1⟩ := hB
    rw [ht] at hP1
    obtain ⟨hP, hD⟩ := va_joinP (wr := [(o, .inl (ko, 1, .inr (.inl ov)))]) (rx := (CWx a k N L f1 f2 f3 f4 f5 f6 f7 f8 rd f10 f11 f12 n f14 lf wd ho ro pa rs)) (pl1 := va_pl LP (CEf E)) hP hD [1, 2, 3, 4, 5, 6, 7, 8, 9] [0] rfl rfl (by decide) (by decide) hk1 hFc hP1 hD1
    clear hFc hz1 hk1 hK1 hD1 hP1 hPc hDc hKc ht hvm
    generalize H1 = H at hP hS hce ⊢
    have hP : va_P (dC, dI) vwCl (OWl o ko ov a k LP N L f1 f2 f3 f4 f5 f6 f7 f8 rd f10 f11 f12 n f14 lf wd ho ro pa rs E) H := hP
    have hD : va_D A (OWl o ko ov a k LP N L f1 f2 f3 f4 f5 f6 f7 f8 rd f10 f11 f12 n f14 lf wd ho ro pa rs E) := hD
    obtain rfl := thr_table hw
    refine vx_catch (own := RL) (name := IOE) (E := excN 0) hown [] ⟨0, 10, 13, 13⟩ [] (by rw [hTab]; rfl) (fun z hz => nomatch hz) (by decide) (by decide) (hta _ aw_231) (va_Nw.use rfl hXW.1) hce hcv hcl ?_
    refine W.eq (g2 := F0 m 13 ls [.ref q9]) rfl ?_
    refine lv_astore (lv' := [(5, .ref q9), (0, .ref (a 0)), (1, .int p0), (2, .long p1), (4, .ref o)]) hx hb dL_table_13 hl (by decide) rfl (fun ls hl => ?_)
    refine lv_iconst (v := 1) hx hb dL_table_15 (by decide) ?_
    exact W.iret (v := (1 : Int32)) hx hb hr (fun t ht hW => ⟨⟨(1 : Int32), (ov, wd), rfl, (by unfold mL_table; rewrite [← hw]; rfl), by rw [ht]; exact hP, va_K.moved hW.alike hK, hD⟩, hS.F ht⟩) hS.2.2 dL_table_16
  · obtain ⟨wd', rfl⟩ : ∃ z, z = u := ⟨_, rfl⟩
    obtain ⟨hP1, hK1, hD1⟩ := hB
    rw [ht] at hP1
    obtain ⟨hP, hD⟩ := va_joinP (wr := [(o, .inl (ko, 1, .inr (.inl ov)))]) (rx := (CWx a k N L f1 f2 f3 f4 f5 f6 f7 f8 rd f10 f11 f12 n f14 lf wd' ho ro pa rs)) (pl1 := va_pl LP (CEf E)) hP hD [1, 2, 3, 4, 5, 6, 7, 8, 9] [0] rfl rfl (by decide) (by decide) hk1 hFc hP1 hD1
    clear hFc hz1 hk1 hK1 hD1 hP1 hPc hDc hKc ht hvm
    generalize H1 = H at hP hS ⊢
    have hP : va_P (dC, dI) vwCl (OWl o ko ov a k LP N L f1 f2 f3 f4 f5 f6 f7 f8 rd f10 f11 f12 n f14 lf wd' ho ro pa rs E) H := hP
    have hD : va_D A (OWl o ko ov a k LP N L f1 f2 f3 f4 f5 f6 f7 f8 rd f10 f11 f12 n f14 lf wd' ho ro pa rs E) := hD
    refine va_last hx hb hK hP hD hS 0 0 rfl rfl (show vp_in (nI 0) 1 from vp_in_nI (by decide) (by decide)) dL_table_9 (fun H locs hP hD hS => ?_)
    rw [show ((0 : Int32)).toNatClampNeg = 0 from rfl] at hP hD
    have hP : va_P (dC, dI) vwCl (OWl o ko (vp_updL ov 0 r9) a k LP N L f1 f2 f3 f4 f5 f6 f7 f8 rd f10 f11 f12 n f14 lf wd' ho ro pa rs E) H := hP
    have hD : va_D A (OWl o ko (vp_updL ov 0 r9) a k LP N L f1 f2 f3 f4 f5 f6 f7 f8 rd f10 f11 f12 n f14 lf wd' ho ro pa rs E) := hD
    refine lv_goto (tgt := 17) hx hb dL_table_10 (by decide) ?_
    refine lv_iconst (v := 0) hx hb dL_table_17 (by decide) ?_
    exact W.iret (v := (0 : Int32)) hx hb hr (fun t ht hW => ⟨⟨(0 : Int32), (vp_updL ov 0 r9, wd'), rfl, (by unfold mL_table; rewrite [← hw]; rfl), by rw [ht]; exact hP, va_K.moved hW.alike hK, hD⟩, hS.F ht⟩) hS.2.2 dL_table_18
def mL_word (ov : Nat → Int64) (wd : Nat → Int64) (p0 : Int32) : Int32 × (Nat → Int64) :=
  match mX4_word wd p0 with
  | .inl _ => (1, ov)
  | .inr r => (0, vp_updL ov 0 r)
theorem thr_word {wd : Nat → Int64} {p0 : Int32} {u : Nat} (h : (.inl u : Nat ⊕ Int64) = mX4_word wd p0) : u = 0 := by
  unfold mX4_word at h
  revert h
  repeat' split
  all_goals (intro h; first | (cases h; rfl) | (cases h))
set_option maxHeartbeats 4000000 in
set_option maxRecDepth 100000 in
theorem c_L_word (l : Launch) (hl9 : l.stackTraces = false) (dC : Nat → ClassId) (dI : Nat → Nat → Nat) (o : Nat) (ko : ClassId) (ov : Nat → Int64) (a : Nat → Nat) (k : Nat → ClassId) (LP : List Nat) (N : Nat) (L : Nat) (f1 f2 f3 f4 f5 f6 f7 f8 : Int32) (rd : Nat) (f10 f11 f12 : Int32) (n : Nat) (f14 : Int32) (lf : Int64) (wd : Nat → Int64) (ho ro pa : Nat → Int32) (rs : Nat → Option Nat) (E : Nat → Nat → Int32) (sz : Nat) (p0 : Int32)  : Met l yL_word (wL_word :: AW) ({ frames := 7, cells := 1, slots := 6, locals := 112 }) (va_Pc [.ref (a 0), .int p0, .ref o] (CPrL dC dI (OWl o ko ov a k LP N L f1 f2 f3 f4 f5 f6 f7 f8 rd f10 f11 f12 n f14 lf wd ho ro pa rs E) ((ko, .long) :: [(k 0, .long), (k 1, .int), (k 2, .int), (k 3, .object "PageRows$Entry"), (k 4, .int)]) sz)) (va_Qi (fun (r : Int32) (u : (Nat → Int64)) => (r, u) = mL_word ov wd p0) (fun (u : (Nat → Int64)) (t : State) => match u with | ov' => va_P (dC, dI) vwCl (OWl o ko ov' a k LP N L f1 f2 f3 f4 f5 f6 f7 f8 rd f10 f11 f12 n f14 lf wd ho ro pa rs E) t.heap ∧ va_K (dC, dI) vwCl ((ko, .long) :: [(k 0, .long), (k 1, .int), (k 2, .int), (k 3, .object "PageRows$Entry"), (k 4, .int)]) t ∧ va_D (va_A (OWl o ko ov a k LP N L f1 f2 f3 f4 f5 f6 f7 f8 rd f10 f11 f12 n f14 lf wd ho ro pa rs E) sz) (OWl o ko ov' a k LP N L f1 f2 f3 f4 f5 f6 f7 f8 rd f10 f11 f12 n f14 lf wd ho ro pa rs E)) (va_A (OWl o ko ov a k LP N L f1 f2 f3 f4 f5 f6 f7 f8 rd f10 f11 f12 n f14 lf wd ho ro pa rs E) sz)) 1 6 (va_A (OWl o ko ov a k LP N L f1 f2 f3 f4 f5 f6 f7 f8 rd f10 f11 f12 n f14 lf wd ho ro pa rs E) sz) := by
  refine cx_ofT (cc := cL_word) (maxL := 4) (ret := some .int) (hh := [(0, 8, 11, 13)]) (by decide) rfl (Nat.le_of_ble_eq_true rfl) ?_
  intro p e s m below meth c ls hx hb hr hts hown hlocks hml hTab hl hB
  have hta : ∀ w ∈ AW, w.before [.ref (a 0), .int p0, .ref o].toArray s = true := fun w h => hts w (List.mem_cons_of_mem _ h)
  have hl : lv_has ls 4 [(0, .ref (a 0)), (1, .int p0), (2, .ref o)] := hl
  have hown : s.vm.findClass RL = some m.cls := hown
  obtain ⟨⟨⟨rfl, ⟨hP, hK, hN⟩, hD0⟩, hXW, hXZ⟩, hNc⟩ := hB
  have hD := hD0.self (sz := s.heap.size)
  generalize hAe : va_A (OWl o ko ov a k LP N L f1 f2 f3 f4 f5 f6 f7 f8 rd f10 f11 f12 n f14 lf wd ho ro pa rs E) s.heap.size = A at hD hXZ ⊢
  have hA : ∀ q : Nat, s.heap.size ≤ q → A q := fun q h => by rw [← hAe]; exact Or.inr h
  have hS : va_S A s.heap s.heap [] := va_S.rf
  refine lv_aload_n hx hb dL_word_0 rfl (lv_at hl 2 rfl) ?_
  refine lv_iconst (v := 0) hx hb dL_word_1 (by decide) ?_
  refine lv_aload_n hx hb dL_word_2 rfl (lv_at hl 0 rfl) ?_
  refine lv_iload_n hx hb dL_word_3 rfl (lv_at hl 1 rfl) ?_
  have hPc := va_P.part (cx := (CWx a k N L f1 f2 f3 f4 f5 f6 f7 f8 rd f10 f11 f12 n f14 lf wd ho ro pa rs)) hP [1, 2, 3, 4, 5, 6, 7, 8, 9] rfl
  have hDc := va_D.part (cx := (CWx a k N L f1 f2 f3 f4 f5 f6 f7 f8 rd f10 f11 f12 n f14 lf wd ho ro pa rs)) hD [1, 2, 3, 4, 5, 6, 7, 8, 9] (by decide) rfl
  have hKc := hK.sub (tys' := [(k 0, .long), (k 1, .int), (k 2, .int), (k 3, .object "PageRows$Entry"), (k 4, .int)]) [1, 2, 3, 4, 5] rfl
  have hFc := va_freeP (cx := (CWx a k N L f1 f2 f3 f4 f5 f6 f7 f8 rd f10 f11 f12 n f14 lf wd ho ro pa rs)) hD hS hA [1, 2, 3, 4, 5, 6, 7, 8, 9] rfl
  refine vx_calll (vx_runV (As := [.int p0]) (rest := [.int (0 : Int32), .ref o]) ⟨hx, hb, hml, hown, hta⟩ (c_X4_word l hl9 dC dI a k LP N L f1 f2 f3 f4 f5 f6 f7 f8 rd f10 f11 f12 n f14 lf wd ho ro pa rs E s.heap.size p0) (cwV 1 hta (gV aw_306 aw_307 aw_308 aw_38 aw_309) rfl rfl rfl (by decide +kernel) ⟨Nat.le_of_ble_eq_true rfl, Nat.le_of_ble_eq_true rfl⟩) (cx_preVX hKc hPc hN (va_recv hKc hPc (ci := 4) (q0 := 0) rfl rfl) hDc hXW (cx_xz hXZ hS hFc)) rfl rfl hl.1 rfl (lv_room (Nat.le_of_ble_eq_true rfl)) dL_word_4 ⟨Nat.le_of_ble_eq_true rfl, Nat.le_of_ble_eq_true rfl⟩) hS (fun q _ h => hFc q h) hFc (fun q _ h => hFc q h) (fun E9 ce q9 u t9 H1 locs ht hvm hw hB hz1 hk1 hS hce hcv hcl => ?_) (fun r9 u t9 H1 locs ht hvm hw hB hz1 hk1 hS => ?_)
  · obtain ⟨rfl, hP1, hK1, hD1⟩ := hB
    rw [ht] at hP1
    obtain ⟨hP, hD⟩ := va_joinP (wr := [(o, .inl (ko, 1, .inr (.inl ov)))]) (rx := (CWx a k N L f1 f2 f3 f4 f5 f6 f7 f8 rd f10 f11 f12 n f14 lf wd ho ro pa rs)) (pl1 := va_pl LP (CEf E)) hP hD [1, 2, 3, 4, 5, 6, 7, 8, 9] [0] rfl rfl (by decide) (by decide) hk1 hFc hP1 hD1
    clear hFc hz1 hk1 hK1 hD1 hP1 hPc hDc hKc ht hvm
    generalize H1 = H at hP hS hce ⊢
    have hP : va_P (dC, dI) vwCl (OWl o ko ov a k LP N L f1 f2 f3 f4 f5 f6 f7 f8 rd f10 f11 f12 n f14 lf wd ho ro pa rs E) H := hP
    have hD : va_D A (OWl o ko ov a k LP N L f1 f2 f3 f4 f5 f6 f7 f8 rd f10 f11 f12 n f14 lf wd ho ro pa rs E) := hD
    obtain rfl := thr_word hw
    refine vx_catch (own := RL) (name := IOE) (E := excN 0) hown [] ⟨0, 8, 11, 13⟩ [] (by rw [hTab]; rfl) (fun z hz => nomatch hz) (by decide) (by decide) (hta _ aw_231) (va_Nw.use rfl hXW.1) hce hcv hcl ?_
    refine W.eq (g2 := F0 m 11 ls [.ref q9]) rfl ?_
    refine lv_astore_n (lv' := [(3, .ref q9), (0, .ref (a 0)), (1, .int p0), (2, .ref o)]) hx hb dL_word_11 rfl hl (by decide) rfl (fun ls hl => ?_)
    refine lv_iconst (v := 1) hx hb dL_word_12 (by decide) ?_
    exact W.iret (v := (1 : Int32)) hx hb hr (fun t ht hW => ⟨⟨(1 : Int32), ov, rfl, (by unfold mL_word; rewrite [← hw]; rfl), by rw [ht]; exact hP, va_K.moved hW.alike hK, hD⟩, hS.F ht⟩) hS.2.2 dL_word_13
  · obtain ⟨hP1, hK1, hD1⟩ := hB
    rw [ht] at hP1
    obtain ⟨hP, hD⟩ := va_joinP (wr := [(o, .inl (ko, 1, .inr (.inl ov)))]) (rx := (CWx a k N L f1 f2 f3 f4 f5 f6 f7 f8 rd f10 f11 f12 n f14 lf wd ho ro pa rs)) (pl1 := va_pl LP (CEf E)) hP hD [1, 2, 3, 4, 5, 6, 7, 8, 9] [0] rfl rfl (by decide) (by decide) hk1 hFc hP1 hD1
    clear hFc hz1 hk1 hK1 hD1 hP1 hPc hDc hKc ht hvm
    generalize H1 = H at hP hS ⊢
    have hP : va_P (dC, dI) vwCl (OWl o ko ov a k LP N L f1 f2 f3 f4 f5 f6 f7 f8 rd f10 f11 f12 n f14 lf wd ho ro pa rs E) H := hP
    have hD : va_D A (OWl o ko ov a k LP N L f1 f2 f3 f4 f5 f6 f7 f8 rd f10 f11 f12 n f14 lf wd ho ro pa rs E) := hD
    refine va_last hx hb hK hP hD hS 0 0 rfl rfl (show vp_in (nI 0) 1 from vp_in_nI (by decide) (by decide)) dL_word_7 (fun H locs hP hD hS => ?_)
    rw [show ((0 : Int32)).toNatClampNeg = 0 from rfl] at hP hD
    have hP : va_P (dC, dI) vwCl (OWl o ko (vp_updL ov 0 r9) a k LP N L f1 f2 f3 f4 f5 f6 f7 f8 rd f10 f11 f12 n f14 lf wd ho ro pa rs E) H := hP
    have hD : va_D A (OWl o ko (vp_updL ov 0 r9) a k LP N L f1 f2 f3 f4 f5 f6 f7 f8 rd f10 f11 f12 n f14 lf wd ho ro pa rs E) := hD
    refine lv_goto (tgt := 14) hx hb dL_word_8 (by decide) ?_
    refine lv_iconst (v := 0) hx hb dL_word_14 (by decide) ?_
    exact W.iret (v := (0 : Int32)) hx hb hr (fun t ht hW => ⟨⟨(0 : Int32), vp_updL ov 0 r9, rfl, (by unfold mL_word; rewrite [← hw]; rfl), by rw [ht]; exact hP, va_K.moved hW.alike hK, hD⟩, hS.F ht⟩) hS.2.2 dL_word_15
def mL_context (ov : Nat → Int64) (f1 : Int32) (p0 : Int32) : Int32 × (Nat → Int64) × Int32 :=
  match mX4_context f1 p0 with
  | .inl _ => (1, ov, f1)
  | .inr (r, f1') => (0, vp_updL ov 0 (r.toInt64), f1')
theorem thr_context {f1 : Int32} {p0 : Int32} {u : Nat} (h : (.inl u : Nat ⊕ (Int32 × Int32)) = mX4_context f1 p0) : u = 0 := by
  unfold mX4_context at h
  revert h
  repeat' split
  all_goals (intro h; first | (cases h; rfl) | (cases h))
set_option maxHeartbeats 4000000 in
set_option maxRecDepth 100000 in
theorem c_L_context (l : Launch) (hl9 : l.stackTraces = false) (dC : Nat → ClassId) (dI : Nat → Nat → Nat) (o : Nat) (ko : ClassId) (ov : Nat → Int64) (a : Nat → Nat) (k : Nat → ClassId) (LP : List Nat) (N : Nat) (L : Nat) (f1 f2 f3 f4 f5 f6 f7 f8 : Int32) (rd : Nat) (f10 f11 f12 : Int32) (n : Nat) (f14 : Int32) (lf : Int64) (wd : Nat → Int64) (ho ro pa : Nat → Int32) (rs : Nat → Option Nat) (E : Nat → Nat → Int32) (sz : Nat) (p0 : Int32)  : Met l yL_context (wL_context :: AW) ({ frames := 7, cells := 1, slots := 6, locals := 113 }) (va_Pc [.ref (a 0), .int p0, .ref o] (CPrL dC dI (OWl o ko ov a k LP N L f1 f2 f3 f4 f5 f6 f7 f8 rd f10 f11 f12 n f14 lf wd ho ro pa rs E) ((ko, .long) :: [(k 0, .long), (k 1, .int), (k 2, .int), (k 3, .object "PageRows$Entry"), (k 4, .int)]) sz)) (va_Qi (fun (r : Int32) (u : (Nat → Int64) × Int32) => (r, u) = mL_context ov f1 p0) (fun (u : (Nat → Int64) × Int32) (t : State) => match u with | (ov', f1') => va_P (dC, dI) vwCl (OWl o ko ov' a k LP N L f1' f2 f3 f4 f5 f6 f7 f8 rd f10 f11 f12 n f14 lf wd ho ro pa rs E) t.heap ∧ va_K (dC, dI) vwCl ((ko, .long) :: [(k 0, .long), (k 1, .int), (k 2, .int), (k 3, .object "PageRows$Entry"), (k 4, .int)]) t ∧ va_D (va_A (OWl o ko ov a k LP N L f1 f2 f3 f4 f5 f6 f7 f8 rd f10 f11 f12 n f14 lf wd ho ro pa rs E) sz) (OWl o ko ov' a k LP N L f1' f2 f3 f4 f5 f6 f7 f8 rd f10 f11 f12 n f14 lf wd ho ro pa rs E)) (va_A (OWl o ko ov a k LP N L f1 f2 f3 f4 f5 f6 f7 f8 rd f10 f11 f12 n f14 lf wd ho ro pa rs E) sz)) 1 6 (va_A (OWl o ko ov a k LP N L f1 f2 f3 f4 f5 f6 f7 f8 rd f10 f11 f12 n f14 lf wd ho ro pa rs E) sz) := by
  refine cx_ofT (cc := cL_context) (maxL := 4) (ret := some .int) (hh := [(0, 9, 12, 13)]) (by decide) rfl (Nat.le_of_ble_eq_true rfl) ?_
  intro p e s m below meth c ls hx hb hr hts hown hlocks hml hTab hl hB
  have hta : ∀ w ∈ AW, w.before [.ref (a 0), .int p0, .ref o].toArray s = true := fun w h => hts w (List.mem_cons_of_mem _ h)
  have hl : lv_has ls 4 [(0, .ref (a 0)), (1, .int p0), (2, .ref o)] := hl
  have hown : s.vm.findClass RL = some m.cls := hown
  obtain ⟨⟨⟨rfl, ⟨hP, hK, hN⟩, hD0⟩, hXW, hXZ⟩, hNc⟩ := hB
  have hD := hD0.self (sz := s.heap.size)
  generalize hAe : va_A (OWl o ko ov a k LP N L f1 f2 f3 f4 f5 f6 f7 f8 rd f10 f11 f12 n f14 lf wd ho ro pa rs E) s.heap.size = A at hD hXZ ⊢
  have hA : ∀ q : Nat, s.heap.size ≤ q → A q := fun q h => by rw [← hAe]; exact Or.inr h
  have hS : va_S A s.heap s.heap [] := va_S.rf
  refine lv_aload_n hx hb dL_context_0 rfl (lv_at hl 2 rfl) ?_
  refine lv_iconst (v := 0) hx hb dL_context_1 (by decide) ?_
  refine lv_aload_n hx hb dL_context_2 rfl (lv_at hl 0 rfl) ?_
  refine lv_iload_n hx hb dL_context_3 rfl (lv_at hl 1 rfl) ?_
  have hPc := va_P.part (cx := (CWx a k N L f1 f2 f3 f4 f5 f6 f7 f8 rd f10 f11 f12 n f14 lf wd ho ro pa rs)) hP [1, 2, 3, 4, 5, 6, 7, 8, 9] rfl
  have hDc := va_D.part (cx := (CWx a k N L f1 f2 f3 f4 f5 f6 f7 f8 rd f10 f11 f12 n f14 lf wd ho ro pa rs)) hD [1, 2, 3, 4, 5, 6, 7, 8, 9] (by decide) rfl
  have hKc := hK.sub (tys' := [(k 0, .long), (k 1, .int), (k 2, .int), (k 3, .object "PageRows$Entry"), (k 4, .int)]) [1, 2, 3, 4, 5] rfl
  have hFc := va_freeP (cx := (CWx a k N L f1 f2 f3 f4 f5 f6 f7 f8 rd f10 f11 f12 n f14 lf wd ho ro pa rs)) hD hS hA [1, 2, 3, 4, 5, 6, 7, 8, 9] rfl
  refine vx_calli (vx_runV (As := [.int p0]) (rest := [.int (0 : Int32), .ref o]) ⟨hx, hb, hml, hown, hta⟩ (c_X4_context l hl9 dC dI a k LP N L f1 f2 f3 f4 f5 f6 f7 f8 rd f10 f11 f12 n f14 lf wd ho ro pa rs E s.heap.size p0) (cwV 1 hta (gV aw_313 aw_314 aw_315 aw_38 aw_316) rfl rfl rfl (by decide +kernel) ⟨Nat.le_of_ble_eq_true rfl, Nat.le_of_ble_eq_true rfl⟩) (cx_preVX hKc hPc hN (va_recv hKc hPc (ci := 4) (q0 := 0) rfl rfl) hDc hXW (cx_xz hXZ hS hFc)) rfl rfl hl.1 rfl (lv_room (Nat.le_of_ble_eq_true rfl)) dL_context_4 ⟨Nat.le_of_ble_eq_true rfl, Nat.le_of_ble_eq_true rfl⟩) hS (fun q _ h => hFc q h) hFc (fun q _ h => hFc q h) (fun E9 ce q9 u t9 H1 locs ht hvm hw hB hz1 hk1 hS hce hcv hcl => ?_) (fun r9 u t9 H1 locs ht hvm hw hB hz1 hk1 hS => ?_)
  · obtain ⟨rfl, hP1, hK1, hD1⟩ := hB
    rw [ht] at hP1
    obtain ⟨hP, hD⟩ := va_joinP (wr := [(o, .inl (ko, 1, .inr (.inl ov)))]) (rx := (CWx a k N L f1 f2 f3 f4 f5 f6 f7 f8 rd f10 f11 f12 n f14 lf wd ho ro pa rs)) (pl1 := va_pl LP (CEf E)) hP hD [1, 2, 3, 4, 5, 6, 7, 8, 9] [0] rfl rfl (by decide) (by decide) hk1 hFc hP1 hD1
    clear hFc hz1 hk1 hK1 hD1 hP1 hPc hDc hKc ht hvm
    generalize H1 = H at hP hS hce ⊢
    have hP : va_P (dC, dI) vwCl (OWl o ko ov a k LP N L f1 f2 f3 f4 f5 f6 f7 f8 rd f10 f11 f12 n f14 lf wd ho ro pa rs E) H := hP
    have hD : va_D A (OWl o ko ov a k LP N L f1 f2 f3 f4 f5 f6 f7 f8 rd f10 f11 f12 n f14 lf wd ho ro pa rs E) := hD
    obtain rfl := thr_context hw
    refine vx_catch (own := RL) (name := IOE) (E := excN 0) hown [] ⟨0, 9, 12, 13⟩ [] (by rw [hTab]; rfl) (fun z hz => nomatch hz) (by decide) (by decide) (hta _ aw_231) (va_Nw.use rfl hXW.1) hce hcv hcl ?_
    refine W.eq (g2 := F0 m 12 ls [.ref q9]) rfl ?_
    refine lv_astore_n (lv' := [(3, .ref q9), (0, .ref (a 0)), (1, .int p0), (2, .ref o)]) hx hb dL_context_12 rfl hl (by decide) rfl (fun ls hl => ?_)
    refine lv_iconst (v := 1) hx hb dL_context_13 (by decide) ?_
    exact W.iret (v := (1 : Int32)) hx hb hr (fun t ht hW => ⟨⟨(1 : Int32), (ov, f1), rfl, (by unfold mL_context; rewrite [← hw]; rfl), by rw [ht]; exact hP, va_K.moved hW.alike hK, hD⟩, hS.F ht⟩) hS.2.2 dL_context_14
  · obtain ⟨f1', rfl⟩ : ∃ z, z = u := ⟨_, rfl⟩
    obtain ⟨hP1, hK1, hD1⟩ := hB
    rw [ht] at hP1
    obtain ⟨hP, hD⟩ := va_joinP (wr := [(o, .inl (ko, 1, .inr (.inl ov)))]) (rx := (CWx a k N L f1' f2 f3 f4 f5 f6 f7 f8 rd f10 f11 f12 n f14 lf wd ho ro pa rs)) (pl1 := va_pl LP (CEf E)) hP hD [1, 2, 3, 4, 5, 6, 7, 8, 9] [0] rfl rfl (by decide) (by decide) hk1 hFc hP1 hD1
    clear hFc hz1 hk1 hK1 hD1 hP1 hPc hDc hKc ht hvm
    generalize H1 = H at hP hS ⊢
    have hP : va_P (dC, dI) vwCl (OWl o ko ov a k LP N L f1' f2 f3 f4 f5 f6 f7 f8 rd f10 f11 f12 n f14 lf wd ho ro pa rs E) H := hP
    have hD : va_D A (OWl o ko ov a k LP N L f1' f2 f3 f4 f5 f6 f7 f8 rd f10 f11 f12 n f14 lf wd ho ro pa rs E) := hD
    refine lv_i2l (v := r9.toInt64) hx hb dL_context_7 rfl ?_
    refine va_last hx hb hK hP hD hS 0 0 rfl rfl (show vp_in (nI 0) 1 from vp_in_nI (by decide) (by decide)) dL_context_8 (fun H locs hP hD hS => ?_)
    rw [show ((0 : Int32)).toNatClampNeg = 0 from rfl] at hP hD
    have hP : va_P (dC, dI) vwCl (OWl o ko (vp_updL ov 0 r9.toInt64) a k LP N L f1' f2 f3 f4 f5 f6 f7 f8 rd f10 f11 f12 n f14 lf wd ho ro pa rs E) H := hP
    have hD : va_D A (OWl o ko (vp_updL ov 0 r9.toInt64) a k LP N L f1' f2 f3 f4 f5 f6 f7 f8 rd f10 f11 f12 n f14 lf wd ho ro pa rs E) := hD
    refine lv_goto (tgt := 15) hx hb dL_context_9 (by decide) ?_
    refine lv_iconst (v := 0) hx hb dL_context_15 (by decide) ?_
    exact W.iret (v := (0 : Int32)) hx hb hr (fun t ht hW => ⟨⟨(0 : Int32), (vp_updL ov 0 r9.toInt64, f1'), rfl, (by unfold mL_context; rewrite [← hw]; rfl), by rw [ht]; exact hP, va_K.moved hW.alike hK, hD⟩, hS.F ht⟩) hS.2.2 dL_context_16
def mL_root (ov : Nat → Int64) (ro : Nat → Int32) (p0 : Int32) (p1 : Int32) : Int32 × (Nat → Int64) × (Nat → Int32) :=
  match mX4_root ro p0 p1 with
  | .inl 0 => (1, ov, ro)
  | .inl _ => (2, ov, ro)
  | .inr (r, ro') => (0, vp_updL ov 0 (r.toInt64), ro')
theorem thr_root {ro : Nat → Int32} {p0 : Int32} {p1 : Int32} {u : Nat} (h : (.inl u : Nat ⊕ (Int32 × (Nat → Int32))) = mX4_root ro p0 p1) : u = 0 ∨ u = 1 := by
  unfold mX4_root at h
  revert h
  repeat' split
  all_goals (intro h; first | (cases h; exact Or.inl rfl) | (cases h; exact Or.inr rfl) | (cases h))
set_option maxHeartbeats 4000000 in
set_option maxRecDepth 100000 in
theorem c_L_root (l : Launch) (hl9 : l.stackTraces = false) (dC : Nat → ClassId) (dI : Nat → Nat → Nat) (o : Nat) (ko : ClassId) (ov : Nat → Int64) (a : Nat → Nat) (k : Nat → ClassId) (LP : List Nat) (N : Nat) (L : Nat) (f1 f2 f3 f4 f5 f6 f7 f8 : Int32) (rd : Nat) (f10 f11 f12 : Int32) (n : Nat) (f14 : Int32) (lf : Int64) (wd : Nat → Int64) (ho ro pa : Nat → Int32) (rs : Nat → Option Nat) (E : Nat → Nat → Int32) (sz : Nat) (p0 : Int32) (p1 : Int32)  : Met l yL_root (wL_root :: AW) ({ frames := 7, cells := 1, slots := 6, locals := 114 }) (va_Pc [.ref (a 0), .int p0, .int p1, .ref o] (CPrL dC dI (OWl o ko ov a k LP N L f1 f2 f3 f4 f5 f6 f7 f8 rd f10 f11 f12 n f14 lf wd ho ro pa rs E) ((ko, .long) :: [(k 0, .long), (k 1, .int), (k 2, .int), (k 3, .object "PageRows$Entry"), (k 4, .int)]) sz)) (va_Qi (fun (r : Int32) (u : (Nat → Int64) × (Nat → Int32)) => (r, u) = mL_root ov ro p0 p1) (fun (u : (Nat → Int64) × (Nat → Int32)) (t : State) => match u with | (ov', ro') => va_P (dC, dI) vwCl (OWl o ko ov' a k LP N L f1 f2 f3 f4 f5 f6 f7 f8 rd f10 f11 f12 n f14 lf wd ho ro' pa rs E) t.heap ∧ va_K (dC, dI) vwCl ((ko, .long) :: [(k 0, .long), (k 1, .int), (k 2, .int), (k 3, .object "PageRows$Entry"), (k 4, .int)]) t ∧ va_D (va_A (OWl o ko ov a k LP N L f1 f2 f3 f4 f5 f6 f7 f8 rd f10 f11 f12 n f14 lf wd ho ro pa rs E) sz) (OWl o ko ov' a k LP N L f1 f2 f3 f4 f5 f6 f7 f8 rd f10 f11 f12 n f14 lf wd ho ro' pa rs E)) (va_A (OWl o ko ov a k LP N L f1 f2 f3 f4 f5 f6 f7 f8 rd f10 f11 f12 n f14 lf wd ho ro pa rs E) sz)) 1 6 (va_A (OWl o ko ov a k LP N L f1 f2 f3 f4 f5 f6 f7 f8 rd f10 f11 f12 n f14 lf wd ho ro pa rs E) sz) := by
  refine cx_ofT (cc := cL_root) (maxL := 5) (ret := some .int) (hh := [(0, 10, 13, 13), (0, 10, 17, 27)]) (by decide) rfl (Nat.le_of_ble_eq_true rfl) ?_
  intro p e s m below meth c ls hx hb hr hts hown hlocks hml hTab hl hB
  have hta : ∀ w ∈ AW, w.before [.ref (a 0), .int p0, .int p1, .ref o].toArray s = true := fun w h => hts w (List.mem_cons_of_mem _ h)
  have hl : lv_has ls 5 [(0, .ref (a 0)), (1, .int p0), (2, .int p1), (3, .ref o)] := hl
  have hown : s.vm.findClass RL = some m.cls := hown
  obtain ⟨⟨⟨rfl, ⟨hP, hK, hN⟩, hD0⟩, hXW, hXZ⟩, hNc⟩ := hB
  have hD := hD0.self (sz := s.heap.size)
  generalize hAe : va_A (OWl o ko ov a k LP N L f1 f2 f3 f4 f5 f6 f7 f8 rd f10 f11 f12 n f14 lf wd ho ro pa rs E) s.heap.size = A at hD hXZ ⊢
  have hA : ∀ q : Nat, s.heap.size ≤ q → A q := fun q h => by rw [← hAe]; exact Or.inr h
  have hS : va_S A s.heap s.heap [] := va_S.rf
  refine lv_aload_n hx hb dL_root_0 rfl (lv_at hl 3 rfl) ?_
  refine lv_iconst (v := 0) hx hb dL_root_1 (by decide) ?_
  refine lv_aload_n hx hb dL_root_2 rfl (lv_at hl 0 rfl) ?_
  refine lv_iload_n hx hb dL_root_3 rfl (lv_at hl 1 rfl) ?_
  refine lv_iload_n hx hb dL_root_4 rfl (lv_at hl 2 rfl) ?_
  have hPc := va_P.part (cx := (CWx a k N L f1 f2 f3 f4 f5 f6 f7 f8 rd f10 f11 f12 n f14 lf wd ho ro pa rs)) hP [1, 2, 3, 4, 5, 6, 7, 8, 9] rfl
  have hDc := va_D.part (cx := (CWx a k N L f1 f2 f3 f4 f5 f6 f7 f8 rd f10 f11 f12 n f14 lf wd ho ro pa rs)) hD [1, 2, 3, 4, 5, 6, 7, 8, 9] (by decide) rfl
  have hKc := hK.sub (tys' := [(k 0, .long), (k 1, .int), (k 2, .int), (k 3, .object "PageRows$Entry"), (k 4, .int)]) [1, 2, 3, 4, 5] rfl
  have hFc := va_freeP (cx := (CWx a k N L f1 f2 f3 f4 f5 f6 f7 f8 rd f10 f11 f12 n f14 lf wd ho ro pa rs)) hD hS hA [1, 2, 3, 4, 5, 6, 7, 8, 9] rfl
  refine vx_calli (vx_runV (As := [.int p0, .int p1]) (rest := [.int (0 : Int32), .ref o]) ⟨hx, hb, hml, hown, hta⟩ (c_X4_root l hl9 dC dI a k LP N L f1 f2 f3 f4 f5 f6 f7 f8 rd f10 f11 f12 n f14 lf wd ho ro pa rs E s.heap.size p0 p1) (cwV 2 hta (gV aw_322 aw_323 aw_324 aw_38 aw_325) rfl rfl rfl (by decide +kernel) ⟨Nat.le_of_ble_eq_true rfl, Nat.le_of_ble_eq_true rfl⟩) (cx_preVX hKc hPc hN (va_recv hKc hPc (ci := 4) (q0 := 0) rfl rfl) hDc hXW (cx_xz hXZ hS hFc)) rfl rfl hl.1 rfl (lv_room (Nat.le_of_ble_eq_true rfl)) dL_root_5 ⟨Nat.le_of_ble_eq_true rfl, Nat.le_of_ble_eq_true rfl⟩) hS (fun q _ h => hFc q h) hFc (fun q _ h => hFc q h) (fun E9 ce q9 u t9 H1 locs ht hvm hw hB hz1 hk1 hS hce hcv hcl => ?_) (fun r9 u t9 H1 locs ht hvm hw hB hz1 hk1 hS => ?_)
  · obtain ⟨rfl, hP1, hK1, hD1⟩ := hB
    rw [ht] at hP1
    obtain ⟨hP, hD⟩ := va_joinP (wr := [(o, .inl (ko, 1, .inr (.inl ov)))]) (rx := (CWx a k N L f1 f2 f3 f4 f5 f6 f7 f8 rd f10 f11 f12 n f14 lf wd ho ro pa rs)) (pl1 := va_pl LP (CEf E)) hP hD [1, 2, 3, 4, 5, 6, 7, 8, 9] [0] rfl rfl (by decide) (by decide) hk1 hFc hP1 hD1
    clear hFc hz1 hk1 hK1 hD1 hP1 hPc hDc hKc ht hvm
    generalize H1 = H at hP hS hce ⊢
    have hP : va_P (dC, dI) vwCl (OWl o ko ov a k LP N L f1 f2 f3 f4 f5 f6 f7 f8 rd f10 f11 f12 n f14 lf wd ho ro pa rs E) H := hP
    have hD : va_D A (OWl o ko ov a k LP N L f1 f2 f3 f4 f5 f6 f7 f8 rd f10 f11 f12 n f14 lf wd ho ro pa rs E) := hD
    rcases thr_root hw with rfl | rfl
    · refine vx_catch (own := RL) (name := IOE) (E := excN 0) hown [] ⟨0, 10, 13, 13⟩ [⟨0, 10, 17, 27⟩] (by rw [hTab]; rfl) (fun z hz => nomatch hz) (by decide) (by decide) (hta _ aw_231) (va_Nw.use rfl hXW.1) hce hcv hcl ?_
      refine W.eq (g2 := F0 m 13 ls [.ref q9]) rfl ?_
      refine lv_astore (lv' := [(4, .ref q9), (0, .ref (a 0)), (1, .int p0), (2, .int p1), (3, .ref o)]) hx hb dL_root_13 hl (by decide) rfl (fun ls hl => ?_)
      refine lv_iconst (v := 1) hx hb dL_root_15 (by decide) ?_
      exact W.iret (v := (1 : Int32)) hx hb hr (fun t ht hW => ⟨⟨(1 : Int32), (ov, ro), rfl, (by unfold mL_root; rewrite [← hw]; rfl), by rw [ht]; exact hP, va_K.moved hW.alike hK, hD⟩, hS.F ht⟩) hS.2.2 dL_root_16
    · refine vx_catch (own := RL) (name := IAE) (E := excN 1) hown [⟨0, 10, 13, 13⟩] ⟨0, 10, 17, 27⟩ [] (by rw [hTab]; rfl) (fun z hz => by rw [List.mem_singleton.mp hz]; exact Or.inr ⟨by decide, IOE, (hta _ aw_231), hNc⟩) (by decide) (by decide) (hta _ aw_321) (va_Nw.use rfl hXW.2.1) hce hcv hcl ?_
      refine W.eq (g2 := F0 m 17 ls [.ref q9]) rfl ?_
      refine lv_astore (lv' := [(4, .ref q9), (0, .ref (a 0)), (1, .int p0), (2, .int p1), (3, .ref o)]) hx hb dL_root_17 hl (by decide) rfl (fun ls hl => ?_)
      refine lv_iconst (v := 2) hx hb dL_root_19 (by decide) ?_
      exact W.iret (v := (2 : Int32)) hx hb hr (fun t ht hW => ⟨⟨(2 : Int32), (ov, ro), rfl, (by unfold mL_root; rewrite [← hw]; rfl), by rw [ht]; exact hP, va_K.moved hW.alike hK, hD⟩, hS.F ht⟩) hS.2.2 dL_root_20
  · obtain ⟨ro', rfl⟩ : ∃ z, z = u := ⟨_, rfl⟩
    obtain ⟨hP1, hK1, hD1⟩ := hB
    rw [ht] at hP1
    obtain ⟨hP, hD⟩ := va_joinP (wr := [(o, .inl (ko, 1, .inr (.inl ov)))]) (rx := (CWx a k N L f1 f2 f3 f4 f5 f6 f7 f8 rd f10 f11 f12 n f14 lf wd ho ro' pa rs)) (pl1 := va_pl LP (CEf E)) hP hD [1, 2, 3, 4, 5, 6, 7, 8, 9] [0] rfl rfl (by decide) (by decide) hk1 hFc hP1 hD1
    clear hFc hz1 hk1 hK1 hD1 hP1 hPc hDc hKc ht hvm
    generalize H1 = H at hP hS ⊢
    have hP : va_P (dC, dI) vwCl (OWl o ko ov a k LP N L f1 f2 f3 f4 f5 f6 f7 f8 rd f10 f11 f12 n f14 lf wd ho ro' pa rs E) H := hP
    have hD : va_D A (OWl o ko ov a k LP N L f1 f2 f3 f4 f5 f6 f7 f8 rd f10 f11 f12 n f14 lf wd ho ro' pa rs E) := hD
    refine lv_i2l (v := r9.toInt64) hx hb dL_root_8 rfl ?_
    refine va_last hx hb hK hP hD hS 0 0 rfl rfl (show vp_in (nI 0) 1 from vp_in_nI (by decide) (by decide)) dL_root_9 (fun H locs hP hD hS => ?_)
    rw [show ((0 : Int32)).toNatClampNeg = 0 from rfl] at hP hD
    have hP : va_P (dC, dI) vwCl (OWl o ko (vp_updL ov 0 r9.toInt64) a k LP N L f1 f2 f3 f4 f5 f6 f7 f8 rd f10 f11 f12 n f14 lf wd ho ro' pa rs E) H := hP
    have hD : va_D A (OWl o ko (vp_updL ov 0 r9.toInt64) a k LP N L f1 f2 f3 f4 f5 f6 f7 f8 rd f10 f11 f12 n f14 lf wd ho ro' pa rs E) := hD
    refine lv_goto (tgt := 21) hx hb dL_root_10 (by decide) ?_
    refine lv_iconst (v := 0) hx hb dL_root_21 (by decide) ?_
    exact W.iret (v := (0 : Int32)) hx hb hr (fun t ht hW => ⟨⟨(0 : Int32), (vp_updL ov 0 r9.toInt64, ro'), rfl, (by unfold mL_root; rewrite [← hw]; rfl), by rw [ht]; exact hP, va_K.moved hW.alike hK, hD⟩, hS.F ht⟩) hS.2.2 dL_root_22
def mL_host (ov : Nat → Int64) (ho : Nat → Int32) (p0 : Int32) (p1 : Int32) : Int32 × (Nat → Int64) × (Nat → Int32) :=
  match mX4_host ho p0 p1 with
  | .inl 0 => (1, ov, ho)
  | .inl _ => (2, ov, ho)
  | .inr (r, ho') => (0, vp_updL ov 0 (r.toInt64), ho')
theorem thr_host {ho : Nat → Int32} {p0 : Int32} {p1 : Int32} {u : Nat} (h : (.inl u : Nat ⊕ (Int32 × (Nat → Int32))) = mX4_host ho p0 p1) : u = 0 ∨ u = 1 := by
  unfold mX4_host at h
  revert h
  repeat' split
  all_goals (intro h; first | (cases h; exact Or.inl rfl) | (cases h; exact Or.inr rfl) | (cases h))
set_option maxHeartbeats 4000000 in
set_option maxRecDepth 100000 in
theorem c_L_host (l : Launch) (hl9 : l.stackTraces = false) (dC : Nat → ClassId) (dI : Nat → Nat → Nat) (o : Nat) (ko : ClassId) (ov : Nat → Int64) (a : Nat → Nat) (k : Nat → ClassId) (LP : List Nat) (N : Nat) (L : Nat) (f1 f2 f3 f4 f5 f6 f7 f8 : Int32) (rd : Nat) (f10 f11 f12 : Int32) (n : Nat) (f14 : Int32) (lf : Int64) (wd : Nat → Int64) (ho ro pa : Nat → Int32) (rs : Nat → Option Nat) (E : Nat → Nat → Int32) (sz : Nat) (p0 : Int32) (p1 : Int32)  : Met l yL_host (wL_host :: AW) ({ frames := 7, cells := 1, slots := 6, locals := 114 }) (va_Pc [.ref (a 0), .int p0, .int p1, .ref o] (CPrL dC dI (OWl o ko ov a k LP N L f1 f2 f3 f4 f5 f6 f7 f8 rd f10 f11 f12 n f14 lf wd ho ro pa rs E) ((ko, .long) :: [(k 0, .long), (k 1, .int), (k 2, .int), (k 3, .object "PageRows$Entry"), (k 4, .int)]) sz)) (va_Qi (fun (r : Int32) (u : (Nat → Int64) × (Nat → Int32)) => (r, u) = mL_host ov ho p0 p1) (fun (u : (Nat → Int64) × (Nat → Int32)) (t : State) => match u with | (ov', ho') => va_P (dC, dI) vwCl (OWl o ko ov' a k LP N L f1 f2 f3 f4 f5 f6 f7 f8 rd f10 f11 f12 n f14 lf wd ho' ro pa rs E) t.heap ∧ va_K (dC, dI) vwCl ((ko, .long) :: [(k 0, .long), (k 1, .int), (k 2, .int), (k 3, .object "PageRows$Entry"), (k 4, .int)]) t ∧ va_D (va_A (OWl o ko ov a k LP N L f1 f2 f3 f4 f5 f6 f7 f8 rd f10 f11 f12 n f14 lf wd ho ro pa rs E) sz) (OWl o ko ov' a k LP N L f1 f2 f3 f4 f5 f6 f7 f8 rd f10 f11 f12 n f14 lf wd ho' ro pa rs E)) (va_A (OWl o ko ov a k LP N L f1 f2 f3 f4 f5 f6 f7 f8 rd f10 f11 f12 n f14 lf wd ho ro pa rs E) sz)) 1 6 (va_A (OWl o ko ov a k LP N L f1 f2 f3 f4 f5 f6 f7 f8 rd f10 f11 f12 n f14 lf wd ho ro pa rs E) sz) := by
  refine cx_ofT (cc := cL_host) (maxL := 5) (ret := some .int) (hh := [(0, 10, 13, 13), (0, 10, 17, 27)]) (by decide) rfl (Nat.le_of_ble_eq_true rfl) ?_
  intro p e s m below meth c ls hx hb hr hts hown hlocks hml hTab hl hB
  have hta : ∀ w ∈ AW, w.before [.ref (a 0), .int p0, .int p1, .ref o].toArray s = true := fun w h => hts w (List.mem_cons_of_mem _ h)
  have hl : lv_has ls 5 [(0, .ref (a 0)), (1, .int p0), (2, .int p1), (3, .ref o)] := hl
  have hown : s.vm.findClass RL = some m.cls := hown
  obtain ⟨⟨⟨rfl, ⟨hP, hK, hN⟩, hD0⟩, hXW, hXZ⟩, hNc⟩ := hB
  have hD := hD0.self (sz := s.heap.size)
  generalize hAe : va_A (OWl o ko ov a k LP N L f1 f2 f3 f4 f5 f6 f7 f8 rd f10 f11 f12 n f14 lf wd ho ro pa rs E) s.heap.size = A at hD hXZ ⊢
  have hA : ∀ q : Nat, s.heap.size ≤ q → A q := fun q h => by rw [← hAe]; exact Or.inr h
  have hS : va_S A s.heap s.heap [] := va_S.rf
  refine lv_aload_n hx hb dL_host_0 rfl (lv_at hl 3 rfl) ?_
  refine lv_iconst (v := 0) hx hb dL_host_1 (by decide) ?_
  refine lv_aload_n hx hb dL_host_2 rfl (lv_at hl 0 rfl) ?_
  refine lv_iload_n hx hb dL_host_3 rfl (lv_at hl 1 rfl) ?_
  refine lv_iload_n hx hb dL_host_4 rfl (lv_at hl 2 rfl) ?_
  have hPc := va_P.part (cx := (CWx a k N L f1 f2 f3 f4 f5 f6 f7 f8 rd f10 f11 f12 n f14 lf wd ho ro pa rs)) hP [1, 2, 3, 4, 5, 6, 7, 8, 9] rfl
  have hDc := va_D.part (cx := (CWx a k N L f1 f2 f3 f4 f5 f6 f7 f8 rd f10 f11 f12 n f14 lf wd ho ro pa rs)) hD [1, 2, 3, 4, 5, 6, 7, 8, 9] (by decide) rfl
  have hKc := hK.sub (tys' := [(k 0, .long), (k 1, .int), (k 2, .int), (k 3, .object "PageRows$Entry"), (k 4, .int)]) [1, 2, 3, 4, 5] rfl
  have hFc := va_freeP (cx := (CWx a k N L f1 f2 f3 f4 f5 f6 f7 f8 rd f10 f11 f12 n f14 lf wd ho ro pa rs)) hD hS hA [1, 2, 3, 4, 5, 6, 7, 8, 9] rfl
  refine vx_calli (vx_runV (As := [.int p0, .int p1]) (rest := [.int (0 : Int32), .ref o]) ⟨hx, hb, hml, hown, hta⟩ (c_X4_host l hl9 dC dI a k LP N L f1 f2 f3 f4 f5 f6 f7 f8 rd f10 f11 f12 n f14 lf wd ho ro pa rs E s.heap.size p0 p1) (cwV 2 hta (gV aw_345 aw_346 aw_347 aw_38 aw_348) rfl rfl rfl (by decide +kernel) ⟨Nat.le_of_ble_eq_true rfl, Nat.le_of_ble_eq_true rfl⟩) (cx_preVX hKc hPc hN (va_recv hKc hPc (ci := 4) (q0 := 0) rfl rfl) hDc hXW (cx_xz hXZ hS hFc)) rfl rfl hl.1 rfl (lv_room (Nat.le_of_ble_eq_true rfl)) dL_host_5 ⟨Nat.le_of_ble_eq_true rfl, Nat.le_of_ble_eq_true rfl⟩) hS (fun q _ h => hFc q h) hFc (fun q _ h => hFc q h) (fun E9 ce q9 u t9 H1 locs ht hvm hw hB hz1 hk1 hS hce hcv hcl => ?_) (fun r9 u t9 H1 locs ht hvm hw hB hz1 hk1 hS => ?_)
  · obtain ⟨rfl, hP1, hK1, hD1⟩ := hB
    rw [ht] at hP1
    obtain ⟨hP, hD⟩ := va_joinP (wr := [(o, .inl (ko, 1, .inr (.inl ov)))]) (rx := (CWx a k N L f1 f2 f3 f4 f5 f6 f7 f8 rd f10 f11 f12 n f14 lf wd ho ro pa rs)) (pl1 := va_pl LP (CEf E)) hP hD [1, 2, 3, 4, 5, 6, 7, 8, 9] [0] rfl rfl (by decide) (by decide) hk1 hFc hP1 hD1
    clear hFc hz1 hk1 hK1 hD1 hP1 hPc hDc hKc ht hvm
    generalize H1 = H at hP hS hce ⊢
    have hP : va_P (dC, dI) vwCl (OWl o ko ov a k LP N L f1 f2 f3 f4 f5 f6 f7 f8 rd f10 f11 f12 n f14 lf wd ho ro pa rs E) H := hP
    have hD : va_D A (OWl o ko ov a k LP N L f1 f2 f3 f4 f5 f6 f7 f8 rd f10 f11 f12 n f14 lf wd ho ro pa rs E) := hD
    rcases thr_host hw with rfl | rfl
    · refine vx_catch (own := RL) (name := IOE) (E := excN 0) hown [] ⟨0, 10, 13, 13⟩ [⟨0, 10, 17, 27⟩] (by rw [hTab]; rfl) (fun z hz => nomatch hz) (by decide) (by decide) (hta _ aw_231) (va_Nw.use rfl hXW.1) hce hcv hcl ?_
      refine W.eq (g2 := F0 m 13 ls [.ref q9]) rfl ?_
      refine lv_astore (lv' := [(4, .ref q9), (0, .ref (a 0)), (1, .int p0), (2, .int p1), (3, .ref o)]) hx hb dL_host_13 hl (by decide) rfl (fun ls hl => ?_)
      refine lv_iconst (v := 1) hx hb dL_host_15 (by decide) ?_
      exact W.iret (v := (1 : Int32)) hx hb hr (fun t ht hW => ⟨⟨(1 : Int32), (ov, ho), rfl, (by unfold mL_host; rewrite [← hw]; rfl), by rw [ht]; exact hP, va_K.moved hW.alike hK, hD⟩, hS.F ht⟩) hS.2.2 dL_host_16
    · refine vx_catch (own := RL) (name := IAE) (E := excN 1) hown [⟨0, 10, 13, 13⟩] ⟨0, 10, 17, 27⟩ [] (by rw [hTab]; rfl) (fun z hz => by rw [List.mem_singleton.mp hz]; exact Or.inr ⟨by decide, IOE, (hta _ aw_231), hNc⟩) (by decide) (by decide) (hta _ aw_321) (va_Nw.use rfl hXW.2.1) hce hcv hcl ?_
      refine W.eq (g2 := F0 m 17 ls [.ref q9]) rfl ?_
      refine lv_astore (lv' := [(4, .ref q9), (0, .ref (a 0)), (1, .int p0), (2, .int p1), (3, .ref o)]) hx hb dL_host_17 hl (by decide) rfl (fun ls hl => ?_)
      refine lv_iconst (v := 2) hx hb dL_host_19 (by decide) ?_
      exact W.iret (v := (2 : Int32)) hx hb hr (fun t ht hW => ⟨⟨(2 : Int32), (ov, ho), rfl, (by unfold mL_host; rewrite [← hw]; rfl), by rw [ht]; exact hP, va_K.moved hW.alike hK, hD⟩, hS.F ht⟩) hS.2.2 dL_host_20
  · obtain ⟨ho', rfl⟩ : ∃ z, z = u := ⟨_, rfl⟩
    obtain ⟨hP1, hK1, hD1⟩ := hB
    rw [ht] at hP1
    obtain ⟨hP, hD⟩ := va_joinP (wr := [(o, .inl (ko, 1, .inr (.inl ov)))]) (rx := (CWx a k N L f1 f2 f3 f4 f5 f6 f7 f8 rd f10 f11 f12 n f14 lf wd ho' ro pa rs)) (pl1 := va_pl LP (CEf E)) hP hD [1, 2, 3, 4, 5, 6, 7, 8, 9] [0] rfl rfl (by decide) (by decide) hk1 hFc hP1 hD1
    clear hFc hz1 hk1 hK1 hD1 hP1 hPc hDc hKc ht hvm
    generalize H1 = H at hP hS ⊢
    have hP : va_P (dC, dI) vwCl (OWl o ko ov a k LP N L f1 f2 f3 f4 f5 f6 f7 f8 rd f10 f11 f12 n f14 lf wd ho' ro pa rs E) H := hP
    have hD : va_D A (OWl o ko ov a k LP N L f1 f2 f3 f4 f5 f6 f7 f8 rd f10 f11 f12 n f14 lf wd ho' ro pa rs E) := hD
    refine lv_i2l (v := r9.toInt64) hx hb dL_host_8 rfl ?_
    refine va_last hx hb hK hP hD hS 0 0 rfl rfl (show vp_in (nI 0) 1 from vp_in_nI (by decide) (by decide)) dL_host_9 (fun H locs hP hD hS => ?_)
    rw [show ((0 : Int32)).toNatClampNeg = 0 from rfl] at hP hD
    have hP : va_P (dC, dI) vwCl (OWl o ko (vp_updL ov 0 r9.toInt64) a k LP N L f1 f2 f3 f4 f5 f6 f7 f8 rd f10 f11 f12 n f14 lf wd ho' ro pa rs E) H := hP
    have hD : va_D A (OWl o ko (vp_updL ov 0 r9.toInt64) a k LP N L f1 f2 f3 f4 f5 f6 f7 f8 rd f10 f11 f12 n f14 lf wd ho' ro pa rs E) := hD
    refine lv_goto (tgt := 21) hx hb dL_host_10 (by decide) ?_
    refine lv_iconst (v := 0) hx hb dL_host_21 (by decide) ?_
    exact W.iret (v := (0 : Int32)) hx hb hr (fun t ht hW => ⟨⟨(0 : Int32), (vp_updL ov 0 r9.toInt64, ho'), rfl, (by unfold mL_host; rewrite [← hw]; rfl), by rw [ht]; exact hP, va_K.moved hW.alike hK, hD⟩, hS.F ht⟩) hS.2.2 dL_host_22
