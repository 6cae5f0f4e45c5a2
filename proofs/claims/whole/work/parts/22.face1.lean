/-- PageRows.table -/
def mX4_table (wd : Nat → Int64) (p0 : Int32) (p1 : Int64) : Nat ⊕ (Int64 × (Nat → Int64)) :=
  if p0 < 0 then
    .inl 0
  else
    if p0 < (4096 : Int32) then
      .inr (wd p0.toNatClampNeg, vp_updL wd p0.toNatClampNeg p1)
    else
      .inl 0
set_option maxHeartbeats 4000000 in
set_option maxRecDepth 100000 in
theorem c_X4_table (l : Launch) (hl9 : l.stackTraces = false) (dC : Nat → ClassId) (dI : Nat → Nat → Nat) (a : Nat → Nat) (k : Nat → ClassId) (LP : List Nat) (N : Nat) (L : Nat) (f1 f2 f3 f4 f5 f6 f7 f8 : Int32) (rd : Nat) (f10 f11 f12 : Int32) (n : Nat) (f14 : Int32) (lf : Int64) (wd : Nat → Int64) (ho ro pa : Nat → Int32) (rs : Nat → Option Nat) (E : Nat → Nat → Int32)  (sz : Nat) (p0 : Int32) (p1 : Int64)  : vx_Met l yX4_table (wX4_table :: AW) ({ frames := 6, cells := 1, slots := 6, locals := 91 }) (va_Pc [.ref (a 0), .int p0, .long p1] (CPrX dC dI (CWl a k LP N L f1 f2 f3 f4 f5 f6 f7 f8 rd f10 f11 f12 n f14 lf wd ho ro pa rs E) [(k 0, .long), (k 1, .int), (k 2, .int), (k 3, .object "PageRows$Entry"), (k 4, .int)] sz)) (va_Ql (fun (r : Int64) (u : (Nat → Int64)) => .inr (r, u) = mX4_table wd p0 p1) (fun (u : (Nat → Int64)) (t : State) => match u with | wd' => va_P (dC, dI) vwCl (CWl a k LP N L f1 f2 f3 f4 f5 f6 f7 f8 rd f10 f11 f12 n f14 lf wd' ho ro pa rs E) t.heap ∧ va_K (dC, dI) vwCl [(k 0, .long), (k 1, .int), (k 2, .int), (k 3, .object "PageRows$Entry"), (k 4, .int)] t ∧ va_D (va_A (CWl a k LP N L f1 f2 f3 f4 f5 f6 f7 f8 rd f10 f11 f12 n f14 lf wd ho ro pa rs E) sz) (CWl a k LP N L f1 f2 f3 f4 f5 f6 f7 f8 rd f10 f11 f12 n f14 lf wd' ho ro pa rs E)) (va_A (CWl a k LP N L f1 f2 f3 f4 f5 f6 f7 f8 rd f10 f11 f12 n f14 lf wd ho ro pa rs E) sz)) (vx_X (fun u : Nat => .inl u = mX4_table wd p0 p1) (fun (E9 : String) (u : Nat) (t : State) => E9 = excN u ∧ va_P (dC, dI) vwCl (CWl a k LP N L f1 f2 f3 f4 f5 f6 f7 f8 rd f10 f11 f12 n f14 lf wd ho ro pa rs E) t.heap ∧ va_K (dC, dI) vwCl [(k 0, .long), (k 1, .int), (k 2, .int), (k 3, .object "PageRows$Entry"), (k 4, .int)] t ∧ va_D (va_A (CWl a k LP N L f1 f2 f3 f4 f5 f6 f7 f8 rd f10 f11 f12 n f14 lf wd ho ro pa rs E) sz) (CWl a k LP N L f1 f2 f3 f4 f5 f6 f7 f8 rd f10 f11 f12 n f14 lf wd ho ro pa rs E)) (va_A (CWl a k LP N L f1 f2 f3 f4 f5 f6 f7 f8 rd f10 f11 f12 n f14 lf wd ho ro pa rs E) sz)) 1 6 (va_A (CWl a k LP N L f1 f2 f3 f4 f5 f6 f7 f8 rd f10 f11 f12 n f14 lf wd ho ro pa rs E) sz) := by
  refine cx_ofX (cc := cX4_table) (maxL := 6) (ret := some .long) (by decide) rfl (Nat.le_of_ble_eq_true rfl) ?_
  intro p e s m below meth c ls hx hb hr hts hown hlocks hml hEx hl hB
  have hta : ∀ w ∈ AW, w.before [.ref (a 0), .int p0, .long p1].toArray s = true := fun w h => hts w (List.mem_cons_of_mem _ h)
  have hl : lv_has ls 6 [(0, .ref (a 0)), (1, .int p0), (2, .long p1)] := hl
  have hown : s.vm.findClass RX4 = some m.cls := hown
  obtain ⟨⟨rfl, ⟨hP, hK, hN⟩, hD0⟩, hXW, hXZ⟩ := hB
  have hD := hD0.self (sz := s.heap.size)
  generalize hAe : va_A (CWl a k LP N L f1 f2 f3 f4 f5 f6 f7 f8 rd f10 f11 f12 n f14 lf wd ho ro pa rs E) s.heap.size = A at hD hXZ ⊢
  have hA : ∀ q : Nat, s.heap.size ≤ q → A q := fun q h => by rw [← hAe]; exact Or.inr h
  have hS : va_S A s.heap s.heap [] := va_S.rf
  refine lv_iload_n hx hb dX4_table_0 rfl (lv_at hl 1 rfl) ?_
  refine lv_if_lt (tgt := 11) hx hb dX4_table_1 (by decide) (fun c_1_0 => ?_) (fun c_1_0 => ?_)
  · exact cx_throwI hx hb hl9 hown hta aw_236 aw_47 (List.mem_of_getElem? (i := 0) rfl) hXW hXZ hS hl hml dX4_table_11 dX4_table_14 dX4_table_15 dX4_table_17 dX4_table_20 hEx (Nat.le_of_ble_eq_true rfl) (Nat.le_of_ble_eq_true rfl) (Nat.le_of_ble_eq_true rfl) (Nat.le_of_ble_eq_true rfl) hlocks hS.2.2 (Nat.le_of_ble_eq_true rfl) (Nat.le_of_ble_eq_true rfl) (fun t ha hsz hk => ⟨0, (by unfold mX4_table; rewrite [if_pos c_1_0]; (first | done | rfl)), ⟨rfl, hP.kept (fun k q hq => hk q.1 (hP k q hq).lt), va_K.moved ha hK, hD⟩, Nat.le_trans hS.1 hsz, fun q h1 h2 => (hk q (Nat.lt_of_lt_of_le h1 hS.1)).trans (hS.2.1 q h1 h2)⟩)
  · refine lv_iload_n hx hb dX4_table_4 rfl (lv_at hl 1 rfl) ?_
    refine lv_sipush (v := 4096) hx hb dX4_table_5 (by decide) ?_
    refine lv_icmp_lt (tgt := 21) hx hb dX4_table_8 (by decide) (fun c_8_1 => ?_) (fun c_8_1 => ?_)
    · refine lv_aload_n hx hb dX4_table_21 rfl (lv_at hl 0 rfl) ?_
      refine va_get (D := (dC, dI)) (ci := 4) (v := .ref (a 1)) (C := RX4) (T := TX4) (N := 12) hx hb hta inA_X4 hown hK hP 0 rfl rfl 1 (by decide) (hta _ aw_173) (fun _ h9 => h9) rfl dX4_table_22 ?_
      refine va_getN (D := (dC, dI)) (ci := 2) (v := .ref (a 2)) (C := RX2) (T := TX2) (N := 3) hx hb hta inA_X2 hown hK hP 1 rfl rfl 0 (by decide) (hN.nf 0 rfl) (fun _ h9 => h9) rfl dX4_table_25 ?_
      refine lv_iload_n hx hb dX4_table_28 rfl (lv_at hl 1 rfl) ?_
      refine va_lald hx hb hK hP 2 0 rfl rfl (cx_inl c_1_0 c_8_1 rfl) dX4_table_29 ?_
      refine lv_lstore (lv' := [(4, .long (wd p0.toNatClampNeg)), (0, .ref (a 0)), (1, .int p0), (2, .long p1)]) hx hb dX4_table_30 hl (by decide) rfl (fun ls hl => ?_)
      refine lv_aload_n hx hb dX4_table_32 rfl (lv_at hl 1 rfl) ?_
      refine va_get (D := (dC, dI)) (ci := 4) (v := .ref (a 1)) (C := RX4) (T := TX4) (N := 12) hx hb hta inA_X4 hown hK hP 0 rfl rfl 1 (by decide) (hta _ aw_173) (fun _ h9 => h9) rfl dX4_table_33 ?_
      refine va_getN (D := (dC, dI)) (ci := 2) (v := .ref (a 2)) (C := RX2) (T := TX2) (N := 3) hx hb hta inA_X2 hown hK hP 1 rfl rfl 0 (by decide) (hN.nf 0 rfl) (fun _ h9 => h9) rfl dX4_table_36 ?_
      refine lv_iload_n hx hb dX4_table_39 rfl (lv_at hl 2 rfl) ?_
      refine lv_lload_n hx hb dX4_table_40 rfl (lv_at hl 3 rfl) ?_
      refine va_last hx hb hK hP hD hS 2 0 rfl rfl (cx_inl c_1_0 c_8_1 rfl) dX4_table_41 (fun H locs hP hD hS => ?_)
      have hP : va_P (dC, dI) vwCl (CWl a k LP N L f1 f2 f3 f4 f5 f6 f7 f8 rd f10 f11 f12 n f14 lf (vp_updL wd p0.toNatClampNeg p1) ho ro pa rs E) H := hP
      have hD : va_D A (CWl a k LP N L f1 f2 f3 f4 f5 f6 f7 f8 rd f10 f11 f12 n f14 lf (vp_updL wd p0.toNatClampNeg p1) ho ro pa rs E) := hD
      refine lv_lload hx hb dX4_table_42 (lv_at hl 0 rfl) ?_
      refine vx_ret ?_
      refine W.widen (k := 1) (n := 6) (Nat.le_of_ble_eq_true rfl) (Nat.le_of_ble_eq_true rfl) ?_
      exact W.lret (v := wd p0.toNatClampNeg) hx hb hr (fun t ht hW => ⟨⟨wd p0.toNatClampNeg, vp_updL wd p0.toNatClampNeg p1, rfl, (by unfold mX4_table; rewrite [if_neg c_1_0]; rewrite [if_pos c_8_1]; (first | done | rfl)), by rw [ht]; exact hP, va_K.moved hW.alike hK, hD⟩, hS.F ht⟩) hS.2.2 dX4_table_44
    · exact cx_throwI hx hb hl9 hown hta aw_236 aw_47 (List.mem_of_getElem? (i := 0) rfl) hXW hXZ hS hl hml dX4_table_11 dX4_table_14 dX4_table_15 dX4_table_17 dX4_table_20 hEx (Nat.le_of_ble_eq_true rfl) (Nat.le_of_ble_eq_true rfl) (Nat.le_of_ble_eq_true rfl) (Nat.le_of_ble_eq_true rfl) hlocks hS.2.2 (Nat.le_of_ble_eq_true rfl) (Nat.le_of_ble_eq_true rfl) (fun t ha hsz hk => ⟨0, (by unfold mX4_table; rewrite [if_neg c_1_0]; rewrite [if_neg c_8_1]; (first | done | rfl)), ⟨rfl, hP.kept (fun k q hq => hk q.1 (hP k q hq).lt), va_K.moved ha hK, hD⟩, Nat.le_trans hS.1 hsz, fun q h1 h2 => (hk q (Nat.lt_of_lt_of_le h1 hS.1)).trans (hS.2.1 q h1 h2)⟩)
/-- PageRows.word -/
def mX4_word (wd : Nat → Int64) (p0 : Int32) : Nat ⊕ Int64 :=
  if p0 < 0 then
    .inl 0
  else
    if p0 < (4096 : Int32) then
      .inr (wd p0.toNatClampNeg)
    else
      .inl 0
set_option maxHeartbeats 4000000 in
set_option maxRecDepth 100000 in
theorem c_X4_word (l : Launch) (hl9 : l.stackTraces = false) (dC : Nat → ClassId) (dI : Nat → Nat → Nat) (a : Nat → Nat) (k : Nat → ClassId) (LP : List Nat) (N : Nat) (L : Nat) (f1 f2 f3 f4 f5 f6 f7 f8 : Int32) (rd : Nat) (f10 f11 f12 : Int32) (n : Nat) (f14 : Int32) (lf : Int64) (wd : Nat → Int64) (ho ro pa : Nat → Int32) (rs : Nat → Option Nat) (E : Nat → Nat → Int32)  (sz : Nat) (p0 : Int32)  : vx_Met l yX4_word (wX4_word :: AW) ({ frames := 6, cells := 1, slots := 6, locals := 91 }) (va_Pc [.ref (a 0), .int p0] (CPrX dC dI (CWl a k LP N L f1 f2 f3 f4 f5 f6 f7 f8 rd f10 f11 f12 n f14 lf wd ho ro pa rs E) [(k 0, .long), (k 1, .int), (k 2, .int), (k 3, .object "PageRows$Entry"), (k 4, .int)] sz)) (va_Ql (fun (r : Int64) (u : Unit) => .inr r = mX4_word wd p0) (fun (u : Unit) (t : State) => match u with | _ => va_P (dC, dI) vwCl (CWl a k LP N L f1 f2 f3 f4 f5 f6 f7 f8 rd f10 f11 f12 n f14 lf wd ho ro pa rs E) t.heap ∧ va_K (dC, dI) vwCl [(k 0, .long), (k 1, .int), (k 2, .int), (k 3, .object "PageRows$Entry"), (k 4, .int)] t ∧ va_D (va_A (CWl a k LP N L f1 f2 f3 f4 f5 f6 f7 f8 rd f10 f11 f12 n f14 lf wd ho ro pa rs E) sz) (CWl a k LP N L f1 f2 f3 f4 f5 f6 f7 f8 rd f10 f11 f12 n f14 lf wd ho ro pa rs E)) (va_A (CWl a k LP N L f1 f2 f3 f4 f5 f6 f7 f8 rd f10 f11 f12 n f14 lf wd ho ro pa rs E) sz)) (vx_X (fun u : Nat => .inl u = mX4_word wd p0) (fun (E9 : String) (u : Nat) (t : State) => E9 = excN u ∧ va_P (dC, dI) vwCl (CWl a k LP N L f1 f2 f3 f4 f5 f6 f7 f8 rd f10 f11 f12 n f14 lf wd ho ro pa rs E) t.heap ∧ va_K (dC, dI) vwCl [(k 0, .long), (k 1, .int), (k 2, .int), (k 3, .object "PageRows$Entry"), (k 4, .int)] t ∧ va_D (va_A (CWl a k LP N L f1 f2 f3 f4 f5 f6 f7 f8 rd f10 f11 f12 n f14 lf wd ho ro pa rs E) sz) (CWl a k LP N L f1 f2 f3 f4 f5 f6 f7 f8 rd f10 f11 f12 n f14 lf wd ho ro pa rs E)) (va_A (CWl a k LP N L f1 f2 f3 f4 f5 f6 f7 f8 rd f10 f11 f12 n f14 lf wd ho ro pa rs E) sz)) 1 6 (va_A (CWl a k LP N L f1 f2 f3 f4 f5 f6 f7 f8 rd f10 f11 f12 n f14 lf wd ho ro pa rs E) sz) := by
  refine cx_ofX (cc := cX4_word) (maxL := 2) (ret := some .long) (by decide) rfl (Nat.le_of_ble_eq_true rfl) ?_
  intro p e s m below meth c ls hx hb hr hts hown hlocks hml hEx hl hB
  have hta : ∀ w ∈ AW, w.before [.ref (a 0), .int p0].toArray s = true := fun w h => hts w (List.mem_cons_of_mem _ h)
  have hl : lv_has ls 2 [(0, .ref (a 0)), (1, .int p0)] := hl
  have hown : s.vm.findClass RX4 = some m.cls := hown
  obtain ⟨⟨rfl, ⟨hP, hK, hN⟩, hD0⟩, hXW, hXZ⟩ := hB
  have hD := hD0.self (sz := s.heap.size)
  generalize hAe : va_A (CWl a k LP N L f1 f2 f3 f4 f5 f6 f7 f8 rd f10 f11 f12 n f14 lf wd ho ro pa rs E) s.heap.size = A at hD hXZ ⊢
  have hA : ∀ q : Nat, s.heap.size ≤ q → A q := fun q h => by rw [← hAe]; exact Or.inr h
  have hS : va_S A s.heap s.heap [] := va_S.rf
  refine lv_iload_n hx hb dX4_word_0 rfl (lv_at hl 1 rfl) ?_
  refine lv_if_lt (tgt := 11) hx hb dX4_word_1 (by decide) (fun c_1_0 => ?_) (fun c_1_0 => ?_)
  · exact cx_throwI hx hb hl9 hown hta aw_236 aw_47 (List.mem_of_getElem? (i := 0) rfl) hXW hXZ hS hl hml dX4_word_11 dX4_word_14 dX4_word_15 dX4_word_17 dX4_word_20 hEx (Nat.le_of_ble_eq_true rfl) (Nat.le_of_ble_eq_true rfl) (Nat.le_of_ble_eq_true rfl) (Nat.le_of_ble_eq_true rfl) hlocks hS.2.2 (Nat.le_of_ble_eq_true rfl) (Nat.le_of_ble_eq_true rfl) (fun t ha hsz hk => ⟨0, (by unfold mX4_word; rewrite [if_pos c_1_0]; (first | done | rfl)), ⟨rfl, hP.kept (fun k q hq => hk q.1 (hP k q hq).lt), va_K.moved ha hK, hD⟩, Nat.le_trans hS.1 hsz, fun q h1 h2 => (hk q (Nat.lt_of_lt_of_le h1 hS.1)).trans (hS.2.1 q h1 h2)⟩)
  · refine lv_iload_n hx hb dX4_word_4 rfl (lv_at hl 1 rfl) ?_
    refine lv_sipush (v := 4096) hx hb dX4_word_5 (by decide) ?_
    refine lv_icmp_lt (tgt := 21) hx hb dX4_word_8 (by decide) (fun c_8_1 => ?_) (fun c_8_1 => ?_)
    · refine lv_aload_n hx hb dX4_word_21 rfl (lv_at hl 0 rfl) ?_
      refine va_get (D := (dC, dI)) (ci := 4) (v := .ref (a 1)) (C := RX4) (T := TX4) (N := 12) hx hb hta inA_X4 hown hK hP 0 rfl rfl 1 (by decide) (hta _ aw_173) (fun _ h9 => h9) rfl dX4_word_22 ?_
      refine va_getN (D := (dC, dI)) (ci := 2) (v := .ref (a 2)) (C := RX2) (T := TX2) (N := 3) hx hb hta inA_X2 hown hK hP 1 rfl rfl 0 (by decide) (hN.nf 0 rfl) (fun _ h9 => h9) rfl dX4_word_25 ?_
      refine lv_iload_n hx hb dX4_word_28 rfl (lv_at hl 1 rfl) ?_
      refine va_lald hx hb hK hP 2 0 rfl rfl (cx_inl c_1_0 c_8_1 rfl) dX4_word_29 ?_
      refine vx_ret ?_
      refine W.widen (k := 1) (n := 6) (Nat.le_of_ble_eq_true rfl) (Nat.le_of_ble_eq_true rfl) ?_
      exact W.lret (v := wd p0.toNatClampNeg) hx hb hr (fun t ht hW => ⟨⟨wd p0.toNatClampNeg, (), rfl, (by unfold mX4_word; rewrite [if_neg c_1_0]; rewrite [if_pos c_8_1]; (first | done | rfl)), by rw [ht]; exact hP, va_K.moved hW.alike hK, hD⟩, hS.F ht⟩) hS.2.2 dX4_word_30
    · exact cx_throwI hx hb hl9 hown hta aw_236 aw_47 (List.mem_of_getElem? (i := 0) rfl) hXW hXZ hS hl hml dX4_word_11 dX4_word_14 dX4_word_15 dX4_word_17 dX4_word_20 hEx (Nat.le_of_ble_eq_true rfl) (Nat.le_of_ble_eq_true rfl) (Nat.le_of_ble_eq_true rfl) (Nat.le_of_ble_eq_true rfl) hlocks hS.2.2 (Nat.le_of_ble_eq_true rfl) (Nat.le_of_ble_eq_true rfl) (fun t ha hsz hk => ⟨0, (by unfold mX4_word; rewrite [if_neg c_1_0]; rewrite [if_neg c_8_1]; (first | done | rfl)), ⟨rfl, hP.kept (fun k q hq => hk q.1 (hP k q hq).lt), va_K.moved ha hK, hD⟩, Nat.le_trans hS.1 hsz, fun q h1 h2 => (hk q (Nat.lt_of_lt_of_le h1 hS.1)).trans (hS.2.1 q h1 h2)⟩)
/-- PageRows.context -/
def mX4_context (f1 : Int32) (p0 : Int32) : Nat ⊕ (Int32 × Int32) :=
  if p0 < 0 then
    .inl 0
  else
    if p0 < (4 : Int32) then
      .inr (f1, p0)
    else
      .inl 0
set_option maxHeartbeats 4000000 in
set_option maxRecDepth 100000 in
theorem c_X4_context (l : Launch) (hl9 : l.stackTraces = false) (dC : Nat → ClassId) (dI : Nat → Nat → Nat) (a : Nat → Nat) (k : Nat → ClassId) (LP : List Nat) (N : Nat) (L : Nat) (f1 f2 f3 f4 f5 f6 f7 f8 : Int32) (rd : Nat) (f10 f11 f12 : Int32) (n : Nat) (f14 : Int32) (lf : Int64) (wd : Nat → Int64) (ho ro pa : Nat → Int32) (rs : Nat → Option Nat) (E : Nat → Nat → Int32)  (sz : Nat) (p0 : Int32)  : vx_Met l yX4_context (wX4_context :: AW) ({ frames := 6, cells := 1, slots := 6, locals := 91 }) (va_Pc [.ref (a 0), .int p0] (CPrX dC dI (CWl a k LP N L f1 f2 f3 f4 f5 f6 f7 f8 rd f10 f11 f12 n f14 lf wd ho ro pa rs E) [(k 0, .long), (k 1, .int), (k 2, .int), (k 3, .object "PageRows$Entry"), (k 4, .int)] sz)) (va_Qi (fun (r : Int32) (u : Int32) => .inr (r, u) = mX4_context f1 p0) (fun (u : Int32) (t : State) => match u with | f1' => va_P (dC, dI) vwCl (CWl a k LP N L f1' f2 f3 f4 f5 f6 f7 f8 rd f10 f11 f12 n f14 lf wd ho ro pa rs E) t.heap ∧ va_K (dC, dI) vwCl [(k 0, .long), (k 1, .int), (k 2, .int), (k 3, .object "PageRows$Entry"), (k 4, .int)] t ∧ va_D (va_A (CWl a k LP N L f1 f2 f3 f4 f5 f6 f7 f8 rd f10 f11 f12 n f14 lf wd ho ro pa rs E) sz) (CWl a k LP N L f1' f2 f3 f4 f5 f6 f7 f8 rd f10 f11 f12 n f14 lf wd ho ro pa rs E)) (va_A (CWl a k LP N L f1 f2 f3 f4 f5 f6 f7 f8 rd f10 f11 f12 n f14 lf wd ho ro pa rs E) sz)) (vx_X (fun u : Nat => .inl u = mX4_context f1 p0) (fun (E9 : String) (u : Nat) (t : State) => E9 = excN u ∧ va_P (dC, dI) vwCl (CWl a k LP N L f1 f2 f3 f4 f5 f6 f7 f8 rd f10 f11 f12 n f14 lf wd ho ro pa rs E) t.heap ∧ va_K (dC, dI) vwCl [(k 0, .long), (k 1, .int), (k 2, .int), (k 3, .object "PageRows$Entry"), (k 4, .int)] t ∧ va_D (va_A (CWl a k LP N L f1 f2 f3 f4 f5 f6 f7 f8 rd f10 f11 f12 n f14 lf wd ho ro pa rs E) sz) (CWl a k LP N L f1 f2 f3 f4 f5 f6 f7 f8 rd f10 f11 f12 n f14 lf wd ho ro pa rs E)) (va_A (CWl a k LP N L f1 f2 f3 f4 f5 f6 f7 f8 rd f10 f11 f12 n f14 lf wd ho ro pa rs E) sz)) 1 6 (va_A (CWl a k LP N L f1 f2 f3 f4 f5 f6 f7 f8 rd f10 f11 f12 n f14 lf wd ho ro pa rs E) sz) := by
  refine cx_ofX (cc := cX4_context) (maxL := 3) (ret := some .int) (by decide) rfl (Nat.le_of_ble_eq_true rfl) ?_
  intro p e s m below meth c ls hx hb hr hts hown hlocks hml hEx hl hB
  have hta : ∀ w ∈ AW, w.before [.ref (a 0), .int p0].toArray s = true := fun w h => hts w (List.mem_cons_of_mem _ h)
  have hl : lv_has ls 3 [(0, .ref (a 0)), (1, .int p0)] := hl
  have hown : s.vm.findClass RX4 = some m.cls := hown
  obtain ⟨⟨rfl, ⟨hP, hK, hN⟩, hD0⟩, hXW, hXZ⟩ := hB
  have hD := hD0.self (sz := s.heap.size)
  generalize hAe : va_A (CWl a k LP N L f1 f2 f3 f4 f5 f6 f7 f8 rd f10 f11 f12 n f14 lf wd ho ro pa rs E) s.heap.size = A at hD hXZ ⊢
  have hA : ∀ q : Nat, s.heap.size ≤ q → A q := fun q h => by rw [← hAe]; exact Or.inr h
  have hS : va_S A s.heap s.heap [] := va_S.rf
  refine lv_iload_n hx hb dX4_context_0 rfl (lv_at hl 1 rfl) ?_
  refine lv_if_lt (tgt := 9) hx hb dX4_context_1 (by decide) (fun c_1_0 => ?_) (fun c_1_0 => ?_)
  · exact cx_throwI hx hb hl9 hown hta aw_236 aw_47 (List.mem_of_getElem? (i := 1) rfl) hXW hXZ hS hl hml dX4_context_9 dX4_context_12 dX4_context_13 dX4_context_15 dX4_context_18 hEx (Nat.le_of_ble_eq_true rfl) (Nat.le_of_ble_eq_true rfl) (Nat.le_of_ble_eq_true rfl) (Nat.le_of_ble_eq_true rfl) hlocks hS.2.2 (Nat.le_of_ble_eq_true rfl) (Nat.le_of_ble_eq_true rfl) (fun t ha hsz hk => ⟨0, (by unfold mX4_context; rewrite [if_pos c_1_0]; (first | done | rfl)), ⟨rfl, hP.kept (fun k q hq => hk q.1 (hP k q hq).lt), va_K.moved ha hK, hD⟩, Nat.le_trans hS.1 hsz, fun q h1 h2 => (hk q (Nat.lt_of_lt_of_le h1 hS.1)).trans (hS.2.1 q h1 h2)⟩)
  · refine lv_iload_n hx hb dX4_context_4 rfl (lv_at hl 1 rfl) ?_
    refine lv_iconst (v := 4) hx hb dX4_context_5 (by decide) ?_
    refine lv_icmp_lt (tgt := 19) hx hb dX4_context_6 (by decide) (fun c_6_1 => ?_) (fun c_6_1 => ?_)
    · refine lv_aload_n hx hb dX4_context_19 rfl (lv_at hl 0 rfl) ?_
      refine va_get (D := (dC, dI)) (ci := 4) (v := .int f1) (C := RX4) (T := TX4) (N := 12) hx hb hta inA_X4 hown hK hP 0 rfl rfl 5 (by decide) (hta _ aw_177) (fun _ h9 => h9) rfl dX4_context_20 ?_
      refine lv_istore_n (lv' := [(2, .int f1), (0, .ref (a 0)), (1, .int p0)]) hx hb dX4_context_23 rfl hl (by decide) rfl (fun ls hl => ?_)
      refine lv_aload_n hx hb dX4_context_24 rfl (lv_at hl 1 rfl) ?_
      refine lv_iload_n hx hb dX4_context_25 rfl (lv_at hl 2 rfl) ?_
      refine va_put (D := (dC, dI)) (ci := 4) (v := .int p0) (ty := .int) (C := RX4) (T := TX4) (N := 12) hx hb hta inA_X4 tyX4 tyX4_ok nmX4 hown hK hP hD hS 0 rfl rfl 5 (by decide) (hta _ aw_177) (fun _ h9 => h9) rfl (by decide +kernel) rfl rfl (Nat.le_of_ble_eq_true rfl) dX4_context_26 (fun H locs hP hD hS => ?_)
      have hP : va_P (dC, dI) vwCl (CWl a k LP N L p0 f2 f3 f4 f5 f6 f7 f8 rd f10 f11 f12 n f14 lf wd ho ro pa rs E) H := hP
      have hD : va_D A (CWl a k LP N L p0 f2 f3 f4 f5 f6 f7 f8 rd f10 f11 f12 n f14 lf wd ho ro pa rs E) := hD
      refine lv_iload_n hx hb dX4_context_29 rfl (lv_at hl 0 rfl) ?_
      refine vx_ret ?_
      refine W.widen (k := 1) (n := 6) (Nat.le_of_ble_eq_true rfl) (Nat.le_of_ble_eq_true rfl) ?_
      exact W.iret (v := f1) hx hb hr (fun t ht hW => ⟨⟨f1, p0, rfl, (by unfold mX4_context; rewrite [if_neg c_1_0]; rewrite [if_pos c_6_1]; (first | done | rfl)), by rw [ht]; exact hP, va_K.moved hW.alike hK, hD⟩, hS.F ht⟩) hS.2.2 dX4_context_30
    · exact cx_throwI hx hb hl9 hown hta aw_236 aw_47 (List.mem_of_getElem? (i := 1) rfl) hXW hXZ hS hl hml dX4_context_9 dX4_context_12 dX4_context_13 dX4_context_15 dX4_context_18 hEx (Nat.le_of_ble_eq_true rfl) (Nat.le_of_ble_eq_true rfl) (Nat.le_of_ble_eq_true rfl) (Nat.le_of_ble_eq_true rfl) hlocks hS.2.2 (Nat.le_of_ble_eq_true rfl) (Nat.le_of_ble_eq_true rfl) (fun t ha hsz hk => ⟨0, (by unfold mX4_context; rewrite [if_neg c_1_0]; rewrite [if_neg c_6_1]; (first | done | rfl)), ⟨rfl, hP.kept (fun k q hq => hk q.1 (hP k q hq).lt), va_K.moved ha hK, hD⟩, Nat.le_trans hS.1 hsz, fun q h1 h2 => (hk q (Nat.lt_of_lt_of_le h1 hS.1)).trans (hS.2.1 q h1 h2)⟩)
/-- PageRows.root -/
def mX4_root (ro : Nat → Int32) (p0 : Int32) (p1 : Int32) : Nat ⊕ (Int32 × (Nat → Int32)) :=
  if p0 < 0 then
    .inl 0
  else
    if p0 < (4 : Int32) then
      if p1 < 0 then
        .inl 1
      else
        if p1 < (256 : Int32) then
          .inr (ro p0.toNatClampNeg, upd ro p0.toNatClampNeg p1)
        else
          .inl 1
    else
      .inl 0
set_option maxHeartbeats 4000000 in
set_option maxRecDepth 100000 in
theorem c_X4_root (l : Launch) (hl9 : l.stackTraces = false) (dC : Nat → ClassId) (dI : Nat → Nat → Nat) (a : Nat → Nat) (k : Nat → ClassId) (LP : List Nat) (N : Nat) (L : Nat) (f1 f2 f3 f4 f5 f6 f7 f8 : Int32) (rd : Nat) (f10 f11 f12 : Int32) (n : Nat) (f14 : Int32) (lf : Int64) (wd : Nat → Int64) (ho ro pa : Nat → Int32) (rs : Nat → Option Nat) (E : Nat → Nat → Int32)  (sz : Nat) (p0 : Int32) (p1 : Int32)  : vx_Met l yX4_root (wX4_root :: AW) ({ frames := 6, cells := 1, slots := 6, locals := 91 }) (va_Pc [.ref (a 0), .int p0, .int p1] (CPrX dC dI (CWl a k LP N L f1 f2 f3 f4 f5 f6 f7 f8 rd f10 f11 f12 n f14 lf wd ho ro pa rs E) [(k 0, .long), (k 1, .int), (k 2, .int), (k 3, .object "PageRows$Entry"), (k 4, .int)] sz)) (va_Qi (fun (r : Int32) (u : (Nat → Int32)) => .inr (r, u) = mX4_root ro p0 p1) (fun (u : (Nat → Int32)) (t : State) => match u with | ro' => va_P (dC, dI) vwCl (CWl a k LP N L f1 f2 f3 f4 f5 f6 f7 f8 rd f10 f11 f12 n f14 lf wd ho ro' pa rs E) t.heap ∧ va_K (dC, dI) vwCl [(k 0, .long), (k 1, .int), (k 2, .int), (k 3, .object "PageRows$Entry"), (k 4, .int)] t ∧ va_D (va_A (CWl a k LP N L f1 f2 f3 f4 f5 f6 f7 f8 rd f10 f11 f12 n f14 lf wd ho ro pa rs E) sz) (CWl a k LP N L f1 f2 f3 f4 f5 f6 f7 f8 rd f10 f11 f12 n f14 lf wd ho ro' pa rs E)) (va_A (CWl a k LP N L f1 f2 f3 f4 f5 f6 f7 f8 rd f10 f11 f12 n f14 lf wd ho ro pa rs E) sz)) (vx_X (fun u : Nat => .inl u = mX4_root ro p0 p1) (fun (E9 : String) (u : Nat) (t : State) => E9 = excN u ∧ va_P (dC, dI) vwCl (CWl a k LP N L f1 f2 f3 f4 f5 f6 f7 f8 rd f10 f11 f12 n f14 lf wd ho ro pa rs E) t.heap ∧ va_K (dC, dI) vwCl [(k 0, .long), (k 1, .int), (k 2, .int), (k 3, .object "PageRows$Entry"), (k 4, .int)] t ∧ va_D (va_A (CWl a k LP N L f1 f2 f3 f4 f5 f6 f7 f8 rd f10 f11 f12 n f14 lf wd ho ro pa rs E) sz) (CWl a k LP N L f1 f2 f3 f4 f5 f6 f7 f8 rd f10 f11 f12 n f14 lf wd ho ro pa rs E)) (va_A (CWl a k LP N L f1 f2 f3 f4 f5 f6 f7 f8 rd f10 f11 f12 n f14 lf wd ho ro pa rs E) sz)) 1 6 (va_A (CWl a k LP N L f1 f2 f3 f4 f5 f6 f7 f8 rd f10 f11 f12 n f14 lf wd ho ro pa rs E) sz) := by
  refine cx_ofX (cc := cX4_root) (maxL := 4) (ret := some .int) (by decide) rfl (Nat.le_of_ble_eq_true rfl) ?_
  intro p e s m below meth c ls hx hb hr hts hown hlocks hml hEx hl hB
  have hta : ∀ w ∈ AW, w.before [.ref (a 0), .int p0, .int p1].toArray s = true := fun w h => hts w (List.mem_cons_of_mem _ h)
  have hl : lv_has ls 4 [(0, .ref (a 0)), (1, .int p0), (2, .int p1)] := hl
  have hown : s.vm.findClass RX4 = some m.cls := hown
  obtain ⟨⟨rfl, ⟨hP, hK, hN⟩, hD0⟩, hXW, hXZ⟩ := hB
  have hD := hD0.self (sz := s.heap.size)
  generalize hAe : va_A (CWl a k LP N L f1 f2 f3 f4 f5 f6 f7 f8 rd f10 f11 f12 n f14 lf wd ho ro pa rs E) s.heap.size = A at hD hXZ ⊢
  have hA : ∀ q : Nat, s.heap.size ≤ q → A q := fun q h => by rw [← hAe]; exact Or.inr h
  have hS : va_S A s.heap s.heap [] := va_S.rf
  refine lv_iload_n hx hb dX4_root_0 rfl (lv_at hl 1 rfl) ?_
  refine lv_if_lt (tgt := 9) hx hb dX4_root_1 (by decide) (fun c_1_0 => ?_) (fun c_1_0 => ?_)
  · exact cx_throwI hx hb hl9 hown hta aw_236 aw_47 (List.mem_of_getElem? (i := 1) rfl) hXW hXZ hS hl hml dX4_root_9 dX4_root_12 dX4_root_13 dX4_root_15 dX4_root_18 hEx (Nat.le_of_ble_eq_true rfl) (Nat.le_of_ble_eq_true rfl) (Nat.le_of_ble_eq_true rfl) (Nat.le_of_ble_eq_true rfl) hlocks hS.2.2 (Nat.le_of_ble_eq_true rfl) (Nat.le_of_ble_eq_true rfl) (fun t ha hsz hk => ⟨0, (by unfold mX4_root; rewrite [if_pos c_1_0]; (first | done | rfl)), ⟨rfl, hP.kept (fun k q hq => hk q.1 (hP k q hq).lt), va_K.moved ha hK, hD⟩, Nat.le_trans hS.1 hsz, fun q h1 h2 => (hk q (Nat.lt_of_lt_of_le h1 hS.1)).trans (hS.2.1 q h1 h2)⟩)
  · refine lv_iload_n hx hb dX4_root_4 rfl (lv_at hl 1 rfl) ?_
    refine lv_iconst (v := 4) hx hb dX4_root_5 (by decide) ?_
    refine lv_icmp_lt (tgt := 19) hx hb dX4_root_6 (by decide) (fun c_6_1 => ?_) (fun c_6_1 => ?_)
    · refine lv_iload_n hx hb dX4_root_19 rfl (lv_at hl 2 rfl) ?_
      refine lv_if_lt (tgt := 30) hx hb dX4_root_20 (by decide) (fun c_20_2 => ?_) (fun c_20_2 => ?_)
      · exact cx_throwA hx hb hl9 hown hta aw_326 aw_48 (List.mem_of_getElem? (i := 2) rfl) hXW hXZ hS hl hml dX4_root_30 dX4_root_33 dX4_root_34 dX4_root_36 dX4_root_39 hEx (Nat.le_of_ble_eq_true rfl) (Nat.le_of_ble_eq_true rfl) (Nat.le_of_ble_eq_true rfl) (Nat.le_of_ble_eq_true rfl) hlocks hS.2.2 (Nat.le_of_ble_eq_true rfl) (Nat.le_of_ble_eq_true rfl) (fun t ha hsz hk => ⟨1, (by unfold mX4_root; rewrite [if_neg c_1_0]; rewrite [if_pos c_6_1]; rewrite [if_pos c_20_2]; (first | done | rfl)), ⟨rfl, hP.kept (fun k q hq => hk q.1 (hP k q hq).lt), va_K.moved ha hK, hD⟩, Nat.le_trans hS.1 hsz, fun q h1 h2 => (hk q (Nat.lt_of_lt_of_le h1 hS.1)).trans (hS.2.1 q h1 h2)⟩)
      · refine lv_iload_n hx hb dX4_root_23 rfl (lv_at hl 2 rfl) ?_
        refine lv_sipush (v := 256) hx hb dX4_root_24 (by decide) ?_
        refine lv_icmp_lt (tgt := 40) hx hb dX4_root_27 (by decide) (fun c_27_3 => ?_) (fun c_27_3 => ?_)
        · refine lv_aload_n hx hb dX4_root_40 rfl (lv_at hl 0 rfl) ?_
          refine va_get (D := (dC, dI)) (ci := 4) (v := .ref (a 8)) (C := RX4) (T := TX4) (N := 12) hx hb hta inA_X4 hown hK hP 0 rfl rfl 4 (by decide) (hta _ aw_176) (fun _ h9 => h9) rfl dX4_root_41 ?_
          refine lv_iload_n hx hb dX4_root_44 rfl (lv_at hl 1 rfl) ?_
          refine va_iald hx hb hK hP 8 4 rfl rfl (cx_inl c_1_0 c_6_1 rfl) dX4_root_45 ?_
          refine lv_istore_n (lv' := [(3, .int (ro p0.toNatClampNeg)), (0, .ref (a 0)), (1, .int p0), (2, .int p1)]) hx hb dX4_root_46 rfl hl (by decide) rfl (fun ls hl => ?_)
          refine lv_aload_n hx hb dX4_root_47 rfl (lv_at hl 1 rfl) ?_
          refine va_get (D := (dC, dI)) (ci := 4) (v := .ref (a 8)) (C := RX4) (T := TX4) (N := 12) hx hb hta inA_X4 hown hK hP 0 rfl rfl 4 (by decide) (hta _ aw_176) (fun _ h9 => h9) rfl dX4_root_48 ?_
          refine lv_iload_n hx hb dX4_root_51 rfl (lv_at hl 2 rfl) ?_
          refine lv_iload_n hx hb dX4_root_52 rfl (lv_at hl 3 rfl) ?_
          refine va_iast hx hb hK hP hD hS 8 4 rfl rfl (cx_inl c_1_0 c_6_1 rfl) dX4_root_53 (fun H locs hP hD hS => ?_)
          have hP : va_P (dC, dI) vwCl (CWl a k LP N L f1 f2 f3 f4 f5 f6 f7 f8 rd f10 f11 f12 n f14 lf wd ho (upd ro p0.toNatClampNeg p1) pa rs E) H := hP
          have hD : va_D A (CWl a k LP N L f1 f2 f3 f4 f5 f6 f7 f8 rd f10 f11 f12 n f14 lf wd ho (upd ro p0.toNatClampNeg p1) pa rs E) := hD
          refine lv_iload_n hx hb dX4_root_54 rfl (lv_at hl 0 rfl) ?_
          refine vx_ret ?_
          refine W.widen (k := 1) (n := 6) (Nat.le_of_ble_eq_true rfl) (Nat.le_of_ble_eq_true rfl) ?_
          exact W.iret (v := ro p0.toNatClampNeg) hx hb hr (fun t ht hW => ⟨⟨ro p0.toNatClampNeg, upd ro p0.toNatClampNeg p1, rfl, (by unfold mX4_root; rewrite [if_neg c_1_0]; rewrite [if_pos c_6_1]; rewrite [if_neg c_20_2]; rewrite [if_pos c_27_3]; (first | done | rfl)), by rw [ht]; exact hP, va_K.moved hW.alike hK, hD⟩, hS.F ht⟩) hS.2.2 dX4_root_55
        · exact cx_throwA hx hb hl9 hown hta aw_326 aw_48 (List.mem_of_getElem? (i := 2) rfl) hXW hXZ hS hl hml dX4_root_30 dX4_root_33 dX4_root_34 dX4_root_36 dX4_root_39 hEx (Nat.le_of_ble_eq_true rfl) (Nat.le_of_ble_eq_true rfl) (Nat.le_of_ble_eq_true rfl) (Nat.le_of_ble_eq_true rfl) hlocks hS.2.2 (Nat.le_of_ble_eq_true rfl) (Nat.le_of_ble_eq_true rfl) (fun t ha hsz hk => ⟨1, (by unfold mX4_root; rewrite [if_neg c_1_0]; rewrite [if_pos c_6_1]; rewrite [if_neg c_20_2]; rewrite [if_neg c_27_3]; (first | done | rfl)), ⟨rfl, hP.kept (fun k q hq => hk q.1 (hP k q hq).lt), va_K.moved ha hK, hD⟩, Nat.le_trans hS.1 hsz, fun q h1 h2 => (hk q (Nat.lt_of_lt_of_le h1 hS.1)).trans (hS.2.1 q h1 h2)⟩)
    · exact cx_throwI hx hb hl9 hown hta aw_236 aw_47 (List.mem_of_getElem? (i := 1) rfl) hXW hXZ hS hl hml dX4_root_9 dX4_root_12 dX4_root_13 dX4_root_15 dX4_root_18 hEx (Nat.le_of_ble_eq_true rfl) (Nat.le_of_ble_eq_true rfl) (Nat.le_of_ble_eq_true rfl) (Nat.le_of_ble_eq_true rfl) hlocks hS.2.2 (Nat.le_of_ble_eq_true rfl) (Nat.le_of_ble_eq_true rfl) (fun t ha hsz hk => ⟨0, (by unfold mX4_root; rewrite [if_neg c_1_0]; rewrite [if_neg c_6_1]; (first | done | rfl)), ⟨rfl, hP.kept (fun k q hq => hk q.1 (hP k q hq).lt), va_K.moved ha hK, hD⟩, Nat.le_trans hS.1 hsz, fun q h1 h2 => (hk q (Nat.lt_of_lt_of_le h1 hS.1)).trans (hS.2.1 q h1 h2)⟩)
/-- PageRows.host -/
def mX4_host (ho : Nat → Int32) (p0 : Int32) (p1 : Int32) : Nat ⊕ (Int32 × (Nat → Int32)) :=
  if p0 < 0 then
    .inl 0
  else
    if p0 < (256 : Int32) then
      if p1 < (-1 : Int32) then
        .inl 1
      else
        if p1 ≤ (65535 : Int32) then
          .inr (ho p0.toNatClampNeg, upd ho p0.toNatClampNeg p1)
        else
          .inl 1
    else
      .inl 0
set_option maxHeartbeats 4000000 in
set_option maxRecDepth 100000 in
theorem c_X4_host (l : Launch) (hl9 : l.stackTraces = false) (dC : Nat → ClassId) (dI : Nat → Nat → Nat) (a : Nat → Nat) (k : Nat → ClassId) (LP : List Nat) (N : Nat) (L : Nat) (f1 f2 f3 f4 f5 f6 f7 f8 : Int32) (rd : Nat) (f10 f11 f12 : Int32) (n : Nat) (f14 : Int32) (lf : Int64) (wd : Nat → Int64) (ho ro pa : Nat → Int32) (rs : Nat → Option Nat) (E : Nat → Nat → Int32)  (sz : Nat) (p0 : Int32) (p1 : Int32)  : vx_Met l yX4_host (wX4_host :: AW) ({ frames := 6, cells := 1, slots := 6, locals := 91 }) (va_Pc [.ref (a 0), .int p0, .int p1] (CPrX dC dI (CWl a k LP N L f1 f2 f3 f4 f5 f6 f7 f8 rd f10 f11 f12 n f14 lf wd ho ro pa rs E) [(k 0, .long), (k 1, .int), (k 2, .int), (k 3, .object "PageRows$Entry"), (k 4, .int)] sz)) (va_Qi (fun (r : Int32) (u : (Nat → Int32)) => .inr (r, u) = mX4_host ho p0 p1) (fun (u : (Nat → Int32)) (t : State) => match u with | ho' => va_P (dC, dI) vwCl (CWl a k LP N L f1 f2 f3 f4 f5 f6 f7 f8 rd f10 f11 f12 n f14 lf wd ho' ro pa rs E) t.heap ∧ va_K (dC, dI) vwCl [(k 0, .long), (k 1, .int), (k 2, .int), (k 3, .object "PageRows$Entry"), (k 4, .int)] t ∧ va_D (va_A (CWl a k LP N L f1 f2 f3 f4 f5 f6 f7 f8 rd f10 f11 f12 n f14 lf wd ho ro pa rs E) sz) (CWl a k LP N L f1 f2 f3 f4 f5 f6 f7 f8 rd f10 f11 f12 n f14 lf wd ho' ro pa rs E)) (va_A (CWl a k LP N L f1 f2 f3 f4 f5 f6 f7 f8 rd f10 f11 f12 n f14 lf wd ho ro pa rs E) sz)) (vx_X (fun u : Nat => .inl u = mX4_host ho p0 p1) (fun (E9 : String) (u : Nat) (t : State) => E9 = excN u ∧ va_P (dC, dI) vwCl (CWl a k LP N L f1 f2 f3 f4 f5 f6 f7 f8 rd f10 f11 f12 n f14 lf wd ho ro pa rs E) t.heap ∧ va_K (dC, dI) vwCl [(k 0, .long), (k 1, .int), (k 2, .int), (k 3, .object "PageRows$Entry"), (k 4, .int)] t ∧ va_D (va_A (CWl a k LP N L f1 f2 f3 f4 f5 f6 f7 f8 rd f10 f11 f12 n f14 lf wd ho ro pa rs E) sz) (CWl a k LP N L f1 f2 f3 f4 f5 f6 f7 f8 rd f10 f11 f12 n f14 lf wd ho ro pa rs E)) (va_A (CWl a k LP N L f1 f2 f3 f4 f5 f6 f7 f8 rd f10 f11 f12 n f14 lf wd ho ro pa rs E) sz)) 1 6 (va_A (CWl a k LP N L f1 f2 f3 f4 f5 f6 f7 f8 rd f10 f11 f12 n f14 lf wd ho ro pa rs E) sz) := by
  refine cx_ofX (cc := cX4_host) (maxL := 4) (ret := some .int) (by decide) rfl (Nat.le_of_ble_eq_true rfl) ?_
  intro p e s m below meth c ls hx hb hr hts hown hlocks hml hEx hl hB
  have hta : ∀ w ∈ AW, w.before [.ref (a 0), .int p0, .int p1].toArray s = true := fun w h => hts w (List.mem_cons_of_mem _ h)
  have hl : lv_has ls 4 [(0, .ref (a 0)), (1, .int p0), (2, .int p1)] := hl
  have hown : s.vm.findClass RX4 = some m.cls := hown
  obtain ⟨⟨rfl, ⟨hP, hK, hN⟩, hD0⟩, hXW, hXZ⟩ := hB
  have hD := hD0.self (sz := s.heap.size)
  generalize hAe : va_A (CWl a k LP N L f1 f2 f3 f4 f5 f6 f7 f8 rd f10 f11 f12 n f14 lf wd ho ro pa rs E) s.heap.size = A at hD hXZ ⊢
  have hA : ∀ q : Nat, s.heap.size ≤ q → A q := fun q h => by rw [← hAe]; exact Or.inr h
  have hS : va_S A s.heap s.heap [] := va_S.rf
  refine lv_iload_n hx hb dX4_host_0 rfl (lv_at hl 1 rfl) ?_
  refine lv_if_lt (tgt := 11) hx hb dX4_host_1 (by decide) (fun c_1_0 => ?_) (fun c_1_0 => ?_)
  · exact cx_throwI hx hb hl9 hown hta aw_236 aw_47 (List.mem_of_getElem? (i := 2) rfl) hXW hXZ hS hl hml dX4_host_11 dX4_host_14 dX4_host_15 dX4_host_17 dX4_host_20 hEx (Nat.le_of_ble_eq_true rfl) (Nat.le_of_ble_eq_true rfl) (Nat.le_of_ble_eq_true rfl) (Nat.le_of_ble_eq_true rfl) hlocks hS.2.2 (Nat.le_of_ble_eq_true rfl) (Nat.le_of_ble_eq_true rfl) (fun t ha hsz hk => ⟨0, (by unfold mX4_host; rewrite [if_pos c_1_0]; (first | done | rfl)), ⟨rfl, hP.kept (fun k q hq => hk q.1 (hP k q hq).lt), va_K.moved ha hK, hD⟩, Nat.le_trans hS.1 hsz, fun q h1 h2 => (hk q (Nat.lt_of_lt_of_le h1 hS.1)).trans (hS.2.1 q h1 h2)⟩)
  · refine lv_iload_n hx hb dX4_host_4 rfl (lv_at hl 1 rfl) ?_
    refine lv_sipush (v := 256) hx hb dX4_host_5 (by decide) ?_
    refine lv_icmp_lt (tgt := 21) hx hb dX4_host_8 (by decide) (fun c_8_1 => ?_) (fun c_8_1 => ?_)
    · refine lv_iload_n hx hb dX4_host_21 rfl (lv_at hl 2 rfl) ?_
      refine lv_iconst (v := (-1)) hx hb dX4_host_22 (by decide) ?_
      refine lv_icmp_lt (tgt := 32) hx hb dX4_host_23 (by decide) (fun c_23_2 => ?_) (fun c_23_2 => ?_)
      · exact cx_throwA hx hb hl9 hown hta aw_326 aw_48 (List.mem_of_getElem? (i := 3) rfl) hXW hXZ hS hl hml dX4_host_32 dX4_host_35 dX4_host_36 dX4_host_38 dX4_host_41 hEx (Nat.le_of_ble_eq_true rfl) (Nat.le_of_ble_eq_true rfl) (Nat.le_of_ble_eq_true rfl) (Nat.le_of_ble_eq_true rfl) hlocks hS.2.2 (Nat.le_of_ble_eq_true rfl) (Nat.le_of_ble_eq_true rfl) (fun t ha hsz hk => ⟨1, (by unfold mX4_host; rewrite [if_neg c_1_0]; rewrite [if_pos c_8_1]; rewrite [if_pos c_23_2]; (first | done | rfl)), ⟨rfl, hP.kept (fun k q hq => hk q.1 (hP k q hq).lt), va_K.moved ha hK, hD⟩, Nat.le_trans hS.1 hsz, fun q h1 h2 => (hk q (Nat.lt_of_lt_of_le h1 hS.1)).trans (hS.2.1 q h1 h2)⟩)
      · refine lv_iload_n hx hb dX4_host_26 rfl (lv_at hl 2 rfl) ?_
        refine lv_ldc (v := 65535) hx hb hown (hta _ aw_349) dX4_host_27 ?_
        refine lv_icmp_le (tgt := 42) hx hb dX4_host_29 (by decide) (fun c_29_3 => ?_) (fun c_29_3 => ?_)
        · refine lv_aload_n hx hb dX4_host_42 rfl (lv_at hl 0 rfl) ?_
          refine va_get (D := (dC, dI)) (ci := 4) (v := .ref (a 1)) (C := RX4) (T := TX4) (N := 12) hx hb hta inA_X4 hown hK hP 0 rfl rfl 1 (by decide) (hta _ aw_173) (fun _ h9 => h9) rfl dX4_host_43 ?_
          refine va_getN (D := (dC, dI)) (ci := 2) (v := .ref (a 3)) (C := RX2) (T := TX2) (N := 3) hx hb hta inA_X2 hown hK hP 1 rfl rfl 1 (by decide) (hN.nf 2 rfl) (fun _ h9 => h9) rfl dX4_host_46 ?_
          refine lv_iload_n hx hb dX4_host_49 rfl (lv_at hl 1 rfl) ?_
          refine va_iald hx hb hK hP 3 1 rfl rfl (cx_inl c_1_0 c_8_1 rfl) dX4_host_50 ?_
          refine lv_istore_n (lv' := [(3, .int (ho p0.toNatClampNeg)), (0, .ref (a 0)), (1, .int p0), (2, .int p1)]) hx hb dX4_host_51 rfl hl (by decide) rfl (fun ls hl => ?_)
          refine lv_aload_n hx hb dX4_host_52 rfl (lv_at hl 1 rfl) ?_
          refine va_get (D := (dC, dI)) (ci := 4) (v := .ref (a 1)) (C := RX4) (T := TX4) (N := 12) hx hb hta inA_X4 hown hK hP 0 rfl rfl 1 (by decide) (hta _ aw_173) (fun _ h9 => h9) rfl dX4_host_53 ?_
          refine va_getN (D := (dC, dI)) (ci := 2) (v := .ref (a 3)) (C := RX2) (T := TX2) (N := 3) hx hb hta inA_X2 hown hK hP 1 rfl rfl 1 (by decide) (hN.nf 2 rfl) (fun _ h9 => h9) rfl dX4_host_56 ?_
          refine lv_iload_n hx hb dX4_host_59 rfl (lv_at hl 2 rfl) ?_
          refine lv_iload_n hx hb dX4_host_60 rfl (lv_at hl 3 rfl) ?_
          refine va_iast hx hb hK hP hD hS 3 1 rfl rfl (cx_inl c_1_0 c_8_1 rfl) dX4_host_61 (fun H locs hP hD hS => ?_)
          have hP : va_P (dC, dI) vwCl (CWl a k LP N L f1 f2 f3 f4 f5 f6 f7 f8 rd f10 f11 f12 n f14 lf wd (upd ho p0.toNatClampNeg p1) ro pa rs E) H := hP
          have hD : va_D A (CWl a k LP N L f1 f2 f3 f4 f5 f6 f7 f8 rd f10 f11 f12 n f14 lf wd (upd ho p0.toNatClampNeg p1) ro pa rs E) := hD
          refine lv_iload_n hx hb dX4_host_62 rfl (lv_at hl 0 rfl) ?_
          refine vx_ret ?_
          refine W.widen (k := 1) (n := 6) (Nat.le_of_ble_eq_true rfl) (Nat.le_of_ble_eq_true rfl) ?_
          exact W.iret (v := ho p0.toNatClampNeg) hx hb hr (fun t ht hW => ⟨⟨ho p0.toNatClampNeg, upd ho p0.toNatClampNeg p1, rfl, (by unfold mX4_host; rewrite [if_neg c_1_0]; rewrite [if_pos c_8_1]; rewrite [if_neg c_23_2]; rewrite [if_pos c_29_3]; (first | done | rfl)), by rw [ht]; exact hP, va_K.moved hW.alike hK, hD⟩, hS.F ht⟩) hS.2.2 dX4_host_63
        · exact cx_throwA hx hb hl9 hown hta aw_326 aw_48 (List.mem_of_getElem? (i := 3) rfl) hXW hXZ hS hl hml dX4_host_32 dX4_host_35 dX4_host_36 dX4_host_38 dX4_host_41 hEx (Nat.le_of_ble_eq_true rfl) (Nat.le_of_ble_eq_true rfl) (Nat.le_of_ble_eq_true rfl) (Nat.le_of_ble_eq_true rfl) hlocks hS.2.2 (Nat.le_of_ble_eq_true rfl) (Nat.le_of_ble_eq_true rfl) (fun t ha hsz hk => ⟨1, (by unfold mX4_host; rewrite [if_neg c_1_0]; rewrite [if_pos c_8_1]; rewrite [if_neg c_23_2]; rewrite [if_neg c_29_3]; (first | done | rfl)), ⟨rfl, hP.kept (fun k q hq => hk q.1 (hP k q hq).lt), va_K.moved ha hK, hD⟩, Nat.le_trans hS.1 hsz, fun q h1 h2 => (hk q (Nat.lt_of_lt_of_le h1 hS.1)).trans (hS.2.1 q h1 h2)⟩)
    · exact cx_throwI hx hb hl9 hown hta aw_236 aw_47 (List.mem_of_getElem? (i := 2) rfl) hXW hXZ hS hl hml dX4_host_11 dX4_host_14 dX4_host_15 dX4_host_17 dX4_host_20 hEx (Nat.le_of_ble_eq_true rfl) (Nat.le_of_ble_eq_true rfl) (Nat.le_of_ble_eq_true rfl) (Nat.le_of_ble_eq_true rfl) hlocks hS.2.2 (Nat.le_of_ble_eq_true rfl) (Nat.le_of_ble_eq_true rfl) (fun t ha hsz hk => ⟨0, (by unfold mX4_host; rewrite [if_neg c_1_0]; rewrite [if_neg c_8_1]; (first | done | rfl)), ⟨rfl, hP.kept (fun k q hq => hk q.1 (hP k q hq).lt), va_K.moved ha hK, hD⟩, Nat.le_trans hS.1 hsz, fun q h1 h2 => (hk q (Nat.lt_of_lt_of_le h1 hS.1)).trans (hS.2.1 q h1 h2)⟩)
/-- PageRows.hosts -/
def mX4_hosts (f8 : Int32) (p0 : Int32) : Int32 × Int32 :=
  (f8, p0)
set_option maxHeartbeats 4000000 in
set_option maxRecDepth 100000 in
theorem c_X4_hosts (l : Launch) (dC : Nat → ClassId) (dI : Nat → Nat → Nat) (a : Nat → Nat) (k : Nat → ClassId) (LP : List Nat) (N : Nat) (L : Nat) (f1 f2 f3 f4 f5 f6 f7 f8 : Int32) (rd : Nat) (f10 f11 f12 : Int32) (n : Nat) (f14 : Int32) (lf : Int64) (wd : Nat → Int64) (ho ro pa : Nat → Int32) (rs : Nat → Option Nat) (E : Nat → Nat → Int32)  (sz : Nat) (p0 : Int32) (hz : narrow .boolean (.int p0) = .int p0) (hz8 : narrow .boolean (.int f8) = .int f8) : Met l yX4_hosts (wX4_hosts :: AW) ({ frames := 0, cells := 0, slots := 0, locals := 0 }) (va_Pc [.ref (a 0), .int p0] (CPrQ dC dI (CWl a k LP N L f1 f2 f3 f4 f5 f6 f7 f8 rd f10 f11 f12 n f14 lf wd ho ro pa rs E) [(k 0, .long), (k 1, .int), (k 2, .int), (k 3, .object "PageRows$Entry"), (k 4, .int)] sz)) (va_Qi (fun (r : Int32) (u : Int32) => (r, u) = mX4_hosts f8 p0) (fun (u : Int32) (t : State) => match u with | f8' => va_P (dC, dI) vwCl (CWl a k LP N L f1 f2 f3 f4 f5 f6 f7 f8' rd f10 f11 f12 n f14 lf wd ho ro pa rs E) t.heap ∧ va_K (dC, dI) vwCl [(k 0, .long), (k 1, .int), (k 2, .int), (k 3, .object "PageRows$Entry"), (k 4, .int)] t ∧ va_D (va_A (CWl a k LP N L f1 f2 f3 f4 f5 f6 f7 f8 rd f10 f11 f12 n f14 lf wd ho ro pa rs E) sz) (CWl a k LP N L f1 f2 f3 f4 f5 f6 f7 f8' rd f10 f11 f12 n f14 lf wd ho ro pa rs E)) (va_A (CWl a k LP N L f1 f2 f3 f4 f5 f6 f7 f8 rd f10 f11 f12 n f14 lf wd ho ro pa rs E) sz)) 0 0 (va_A (CWl a k LP N L f1 f2 f3 f4 f5 f6 f7 f8 rd f10 f11 f12 n f14 lf wd ho ro pa rs E) sz) := by
  refine cx_of (cc := cX4_hosts) (maxL := 3) (ret := some .boolean) (by decide) rfl (Nat.le_of_ble_eq_true rfl) ?_
  intro p e s m below meth c ls hx hb hr hts hown hlocks hml hnm hl hB
  have hta : ∀ w ∈ AW, w.before [.ref (a 0), .int p0].toArray s = true := fun w h => hts w (List.mem_cons_of_mem _ h)
  have hl : lv_has ls 3 [(0, .ref (a 0)), (1, .int p0)] := hl
  have hown : s.vm.findClass RX4 = some m.cls := hown
  obtain ⟨rfl, ⟨hP, hK, hN⟩, hD0⟩ := hB
  have hD := hD0.self (sz := s.heap.size)
  generalize hAe : va_A (CWl a k LP N L f1 f2 f3 f4 f5 f6 f7 f8 rd f10 f11 f12 n f14 lf wd ho ro pa rs E) s.heap.size = A at hD ⊢
  have hA : ∀ q : Nat, s.heap.size ≤ q → A q := fun q h => by rw [← hAe]; exact Or.inr h
  have hS : va_S A s.heap s.heap [] := va_S.rf
  refine lv_aload_n hx hb dX4_hosts_0 rfl (lv_at hl 0 rfl) ?_
  refine va_get (D := (dC, dI)) (ci := 4) (v := .ref (a 1)) (C := RX4) (T := TX4) (N := 12) hx hb hta inA_X4 hown hK hP 0 rfl rfl 1 (by decide) (hta _ aw_173) (fun _ h9 => h9) rfl dX4_hosts_1 ?_
  refine va_getN (D := (dC, dI)) (ci := 2) (v := .int f8) (C := RX2) (T := TX2) (N := 3) hx hb hta inA_X2 hown hK hP 1 rfl rfl 2 (by decide) (hN.nf 3 rfl) (fun _ h9 => h9) rfl dX4_hosts_4 ?_
  refine lv_istore_n (lv' := [(2, .int f8), (0, .ref (a 0)), (1, .int p0)]) hx hb dX4_hosts_7 rfl hl (by decide) rfl (fun ls hl => ?_)
  refine lv_aload_n hx hb dX4_hosts_8 rfl (lv_at hl 1 rfl) ?_
  refine va_get (D := (dC, dI)) (ci := 4) (v := .ref (a 1)) (C := RX4) (T := TX4) (N := 12) hx hb hta inA_X4 hown hK hP 0 rfl rfl 1 (by decide) (hta _ aw_173) (fun _ h9 => h9) rfl dX4_hosts_9 ?_
  refine lv_iload_n hx hb dX4_hosts_12 rfl (lv_at hl 2 rfl) ?_
  refine va_putN (D := (dC, dI)) (ci := 2) (v := .int p0) (ty := .boolean) (C := RX2) (T := TX2) (N := 3) hx hb hta inA_X2 tyX2 tyX2_ok nmX2 hown hK hP hD hS 1 rfl rfl 2 (by decide) (hN.nf 3 rfl) (fun _ h9 => h9) rfl (by decide +kernel) hz (cx_fitZ hz) (Nat.le_of_ble_eq_true rfl) dX4_hosts_13 (fun H locs hP hD hS => ?_)
  have hP : va_P (dC, dI) vwCl (CWl a k LP N L f1 f2 f3 f4 f5 f6 f7 p0 rd f10 f11 f12 n f14 lf wd ho ro pa rs E) H := hP
  have hD : va_D A (CWl a k LP N L f1 f2 f3 f4 f5 f6 f7 p0 rd f10 f11 f12 n f14 lf wd ho ro pa rs E) := hD
  refine lv_iload_n hx hb dX4_hosts_16 rfl (lv_at hl 0 rfl) ?_
  exact W.zret (ty := .boolean) (v := f8) hx hb hr hz8 (fun t ht hW => ⟨⟨f8, p0, rfl, (by unfold mX4_hosts; (first | done | rfl)), by rw [ht]; exact hP, va_K.moved hW.alike hK, hD⟩, hS.F ht⟩) hS.2.2 dX4_hosts_17
/-- PageRows.plain -/
def mX4_plain (L : Nat) (f1 : Int32) (f8 : Int32) (f10 : Int32) (lf : Int64) (wd : Nat → Int64) (ho : Nat → Int32) (ro : Nat → Int32) (pa : Nat → Int32) (p0 : Int32) (p1 : Int32) : Nat ⊕ (Int32 × Nat × Int64 × Int32 × Int32 × Int32 × (Nat → Int32)) :=
  if (mX4_isKind p1) = 0 then
    .inl 1
  else
    match mFol L f8 wd ho f10 lf pa (ro f1.toNatClampNeg) p0 p1 with
    | (r_3, rd_3, lf_3, f10_3, f11_3, f12_3, pa_3) =>
      if r_3 = 0 then
        .inr (f12_3, rd_3, lf_3, f10_3, f11_3, f12_3, pa_3)
      else
        .inr (-r_3, rd_3, lf_3, f10_3, f11_3, f12_3, pa_3)
set_option maxHeartbeats 4000000 in
set_option maxRecDepth 100000 in
theorem c_X4_plain (l : Launch) (hl9 : l.stackTraces = false) (dC : Nat → ClassId) (dI : Nat → Nat → Nat) (a : Nat → Nat) (k : Nat → ClassId) (LP : List Nat) (N : Nat) (L : Nat) (f1 f2 f3 f4 f5 f6 f7 f8 : Int32) (rd : Nat) (f10 f11 f12 : Int32) (n : Nat) (f14 : Int32) (lf : Int64) (wd : Nat → Int64) (ho ro pa : Nat → Int32) (rs : Nat → Option Nat) (E : Nat → Nat → Int32)  (sz : Nat) (p0 : Int32) (p1 : Int32) (hL1 : 1 ≤ L) (hL4 : L ≤ 4) (hho : HOK ho) (hf1 : vp_in f1 4) (hro : ¬ ro f1.toNatClampNeg < 0) : vx_Met l yX4_plain (wX4_plain :: AW) ({ frames := 6, cells := 1, slots := 6, locals := 91 }) (va_Pc [.ref (a 0), .int p0, .int p1] (CPrX dC dI (CWl a k LP N L f1 f2 f3 f4 f5 f6 f7 f8 rd f10 f11 f12 n f14 lf wd ho ro pa rs E) [(k 0, .long), (k 1, .int), (k 2, .int), (k 3, .object "PageRows$Entry"), (k 4, .int)] sz)) (va_Qi (fun (r : Int32) (u : Nat × Int64 × Int32 × Int32 × Int32 × (Nat → Int32)) => .inr (r, u) = mX4_plain L f1 f8 f10 lf wd ho ro pa p0 p1) (fun (u : Nat × Int64 × Int32 × Int32 × Int32 × (Nat → Int32)) (t : State) => match u with | (rd', lf', f10', f11', f12', pa') => va_P (dC, dI) vwCl (CWl a k LP N L f1 f2 f3 f4 f5 f6 f7 f8 rd' f10' f11' f12' n f14 lf' wd ho ro pa' rs E) t.heap ∧ va_K (dC, dI) vwCl [(k 0, .long), (k 1, .int), (k 2, .int), (k 3, .object "PageRows$Entry"), (k 4, .int)] t ∧ va_D (va_A (CWl a k LP N L f1 f2 f3 f4 f5 f6 f7 f8 rd f10 f11 f12 n f14 lf wd ho ro pa rs E) sz) (CWl a k LP N L f1 f2 f3 f4 f5 f6 f7 f8 rd' f10' f11' f12' n f14 lf' wd ho ro pa' rs E)) (va_A (CWl a k LP N L f1 f2 f3 f4 f5 f6 f7 f8 rd f10 f11 f12 n f14 lf wd ho ro pa rs E) sz)) (vx_X (fun u : Nat => .inl u = mX4_plain L f1 f8 f10 lf wd ho ro pa p0 p1) (fun (E9 : String) (u : Nat) (t : State) => E9 = excN u ∧ va_P (dC, dI) vwCl (CWl a k LP N L f1 f2 f3 f4 f5 f6 f7 f8 rd f10 f11 f12 n f14 lf wd ho ro pa rs E) t.heap ∧ va_K (dC, dI) vwCl [(k 0, .long), (k 1, .int), (k 2, .int), (k 3, .object "PageRows$Entry"), (k 4, .int)] t ∧ va_D (va_A (CWl a k LP N L f1 f2 f3 f4 f5 f6 f7 f8 rd f10 f11 f12 n f14 lf wd ho ro pa rs E) sz) (CWl a k LP N L f1 f2 f3 f4 f5 f6 f7 f8 rd f10 f11 f12 n f14 lf wd ho ro pa rs E)) (va_A (CWl a k LP N L f1 f2 f3 f4 f5 f6 f7 f8 rd f10 f11 f12 n f14 lf wd ho ro pa rs E) sz)) 1 6 (va_A (CWl a k LP N L f1 f2 f3 f4 f5 f6 f7 f8 rd f10 f11 f12 n f14 lf wd ho ro pa rs E) sz) := by
  refine cx_ofX (cc := cX4_plain) (maxL := 4) (ret := some .int) (by decide) rfl (Nat.le_of_ble_eq_true rfl) ?_
  intro p e s m below meth c ls hx hb hr hts hown hlocks hml hEx hl hB
  have hta : ∀ w ∈ AW, w.before [.ref (a 0), .int p0, .int p1].toArray s = true := fun w h => hts w (List.mem_cons_of_mem _ h)
  have hl : lv_has ls 4 [(0, .ref (a 0)), (1, .int p0), (2, .int p1)] := hl
  have hown : s.vm.findClass RX4 = some m.cls := hown
  obtain ⟨⟨rfl, ⟨hP, hK, hN⟩, hD0⟩, hXW, hXZ⟩ := hB
  have hD := hD0.self (sz := s.heap.size)
  generalize hAe : va_A (CWl a k LP N L f1 f2 f3 f4 f5 f6 f7 f8 rd f10 f11 f12 n f14 lf wd ho ro pa rs E) s.heap.size = A at hD hXZ ⊢
  have hA : ∀ q : Nat, s.heap.size ≤ q → A q := fun q h => by rw [← hAe]; exact Or.inr h
  have hS : va_S A s.heap s.heap [] := va_S.rf
  refine lv_iload_n hx hb dX4_plain_0 rfl (lv_at hl 2 rfl) ?_
  refine cx_callSi (va_runS (As := [.int p1]) (rest := []) ⟨hx, hb, hml, hown, hta⟩ (c_X4_isKind l p1) (va_cwS 1 hta (gS aw_358 aw_359 aw_38 aw_360) rfl rfl rfl (by decide +kernel) ⟨Nat.le_of_ble_eq_true rfl, Nat.le_of_ble_eq_true rfl⟩) cx_pre0 rfl rfl hl.1 rfl (lv_room (Nat.le_of_ble_eq_true rfl)) dX4_plain_1 ⟨Nat.le_of_ble_eq_true rfl, Nat.le_of_ble_eq_true rfl⟩) (fun r hw_1 => ?_)
  subst hw_1
  refine lv_if_ne (tgt := 17) hx hb dX4_plain_4 (by decide) (fun c_4_1 => ?_) (fun c_4_1 => ?_)
  · refine lv_aload_n hx hb dX4_plain_17 rfl (lv_at hl 0 rfl) ?_
    refine va_get (D := (dC, dI)) (ci := 4) (v := .ref (a 4)) (C := RX4) (T := TX4) (N := 12) hx hb hta inA_X4 hown hK hP 0 rfl rfl 2 (by decide) (hta _ aw_174) (fun _ h9 => h9) rfl dX4_plain_18 ?_
    refine lv_aload_n hx hb dX4_plain_21 rfl (lv_at hl 0 rfl) ?_
    refine va_get (D := (dC, dI)) (ci := 4) (v := .ref (a 8)) (C := RX4) (T := TX4) (N := 12) hx hb hta inA_X4 hown hK hP 0 rfl rfl 4 (by decide) (hta _ aw_176) (fun _ h9 => h9) rfl dX4_plain_22 ?_
    refine lv_aload_n hx hb dX4_plain_25 rfl (lv_at hl 0 rfl) ?_
    refine va_get (D := (dC, dI)) (ci := 4) (v := .int f1) (C := RX4) (T := TX4) (N := 12) hx hb hta inA_X4 hown hK hP 0 rfl rfl 5 (by decide) (hta _ aw_177) (fun _ h9 => h9) rfl dX4_plain_26 ?_
    refine va_iald hx hb hK hP 8 4 rfl rfl hf1 dX4_plain_29 ?_
    refine lv_iload_n hx hb dX4_plain_30 rfl (lv_at hl 1 rfl) ?_
    refine lv_iload_n hx hb dX4_plain_31 rfl (lv_at hl 2 rfl) ?_
    have hFc : ∀ q, va_A (CWl a k LP N L f1 f2 f3 f4 f5 f6 f7 f8 rd f10 f11 f12 n f14 lf wd ho ro pa rs E) s.heap.size q → A q := cx_free hD hS hA
    refine va_calli (va_runVN (As := [.int (ro f1.toNatClampNeg), .int p0, .int p1]) (rest := []) ⟨hx, hb, hml, hown, hta⟩ (c_X3_follow l dC dI a k LP N L f1 f2 f3 f4 f5 f6 f7 f8 rd f10 f11 f12 n f14 lf wd ho ro pa rs E s.heap.size (ro f1.toNatClampNeg) p0 p1 hL1 hL4 hho hro) ⟨va_cnB 3 hta (gC aw_389) rfl rfl rfl (hN.nm 7 rfl) (hta _ aw_40) (by decide +kernel) ⟨Nat.le_of_ble_eq_true rfl, Nat.le_of_ble_eq_true rfl⟩, (hta _ aw_388), (hta _ aw_4)⟩ (cx_preVQ hK hP hN (va_recv hK hP (ci := 3) (q0 := 4) rfl rfl) hD) rfl rfl hl.1 rfl (lv_room (Nat.le_of_ble_eq_true rfl)) dX4_plain_32 ⟨Nat.le_of_ble_eq_true rfl, Nat.le_of_ble_eq_true rfl⟩) hS (fun q _ h => hFc q h) hFc (fun r_3 u t9 H1 locs ht hvm hw_3 hB hz1 hk1 hS => ?_)
    obtain ⟨rd_3, lf_3, f10_3, f11_3, f12_3, pa_3⟩ := u
    obtain ⟨hP, hK1, hD1⟩ := hB
    rw [ht] at hP
    have hD := hD1.weaken (fun _ _ _ h => hFc _ h)
    clear hFc hz1 hk1 hK1 hD1 ht hvm
    generalize H1 = H at hP hS ⊢
    have hP : va_P (dC, dI) vwCl (CWl a k LP N L f1 f2 f3 f4 f5 f6 f7 f8 rd_3 f10_3 f11_3 f12_3 n f14 lf_3 wd ho ro pa_3 rs E) H := hP
    have hD : va_D A (CWl a k LP N L f1 f2 f3 f4 f5 f6 f7 f8 rd_3 f10_3 f11_3 f12_3 n f14 lf_3 wd ho ro pa_3 rs E) := hD
    obtain ⟨hrd4_3, hpa_3⟩ := fol_ok hw_3 hL1 hL4 hho hro
    refine lv_istore_n (lv' := [(3, .int r_3), (0, .ref (a 0)), (1, .int p0), (2, .int p1)]) hx hb dX4_plain_35 rfl hl (by decide) rfl (fun ls hl => ?_)
    refine lv_iload_n hx hb dX4_plain_36 rfl (lv_at hl 0 rfl) ?_
    refine lv_if_ne (tgt := 50) hx hb dX4_plain_37 (by decide) (fun c_37_3 => ?_) (fun c_37_3 => ?_)
    · refine lv_iload_n hx hb dX4_plain_50 rfl (lv_at hl 0 rfl) ?_
      refine lv_ineg hx hb dX4_plain_51 ?_
      refine vx_ret ?_
      refine W.widen (k := 1) (n := 6) (Nat.le_of_ble_eq_true rfl) (Nat.le_of_ble_eq_true rfl) ?_
      exact W.iret (v := -r_3) hx hb hr (fun t ht hW => ⟨⟨-r_3, (rd_3, lf_3, f10_3, f11_3, f12_3, pa_3), rfl, (by unfold mX4_plain; rewrite [if_neg c_4_1]; rewrite [← hw_3]; (try dsimp only); rewrite [if_neg c_37_3]; (first | done | rfl)), by rw [ht]; exact hP, va_K.moved hW.alike hK, hD⟩, hS.F ht⟩) hS.2.2 dX4_plain_52
    · refine lv_aload_n hx hb dX4_plain_40 rfl (lv_at hl 1 rfl) ?_
      refine va_get (D := (dC, dI)) (ci := 4) (v := .ref (a 4)) (C := RX4) (T := TX4) (N := 12) hx hb hta inA_X4 hown hK hP 0 rfl rfl 2 (by decide) (hta _ aw_174) (fun _ h9 => h9) rfl dX4_plain_41 ?_
      refine va_getN (D := (dC, dI)) (ci := 3) (v := .int f12_3) (C := RX3) (T := TX3) (N := 8) hx hb hta inA_X3 hown hK hP 4 rfl rfl 7 (by decide) (hN.nf 8 rfl) (fun _ h9 => h9) rfl dX4_plain_44 ?_
      refine lv_goto (tgt := 52) hx hb dX4_plain_47 (by decide) ?_
      refine vx_ret ?_
      refine W.widen (k := 1) (n := 6) (Nat.le_of_ble_eq_true rfl) (Nat.le_of_ble_eq_true rfl) ?_
      exact W.iret (v := f12_3) hx hb hr (fun t ht hW => ⟨⟨f12_3, (rd_3, lf_3, f10_3, f11_3, f12_3, pa_3), rfl, (by unfold mX4_plain; rewrite [if_neg c_4_1]; rewrite [← hw_3]; (try dsimp only); rewrite [if_pos c_37_3]; (first | done | rfl)), by rw [ht]; exact hP, va_K.moved hW.alike hK, hD⟩, hS.F ht⟩) hS.2.2 dX4_plain_52
  · exact cx_throwA hx hb hl9 hown hta aw_326 aw_48 (List.mem_of_getElem? (i := 4) rfl) hXW hXZ hS hl hml dX4_plain_7 dX4_plain_10 dX4_plain_11 dX4_plain_13 dX4_plain_16 hEx (Nat.le_of_ble_eq_true rfl) (Nat.le_of_ble_eq_true rfl) (Nat.le_of_ble_eq_true rfl) (Nat.le_of_ble_eq_true rfl) hlocks hS.2.2 (Nat.le_of_ble_eq_true rfl) (Nat.le_of_ble_eq_true rfl) (fun t ha hsz hk => ⟨1, (by unfold mX4_plain; rewrite [if_pos c_4_1]; (first | done | rfl)), ⟨rfl, hP.kept (fun k q hq => hk q.1 (hP k q hq).lt), va_K.moved ha hK, hD⟩, Nat.le_trans hS.1 hsz, fun q h1 h2 => (hk q (Nat.lt_of_lt_of_le h1 hS.1)).trans (hS.2.1 q h1 h2)⟩)
/-- PageRows.flush -/
def mX4_flush (f1 : Int32) (n : Nat) (rs : Nat → Option Nat) (E : Nat → Nat → Int32) (p0 : Int32) (p1 : Int32) : Nat ⊕ (Int32 × Nat × (Nat → Option Nat)) :=
  if p0 < 0 then
    .inl 1
  else
    if p0 ≤ (2 : Int32) then
      match mFor n (mForL E p0 f1 p1 n 0 0 rs) with
      | (r_3, n_3, rs_3) =>
        .inr (r_3, n_3, rs_3)
    else
      .inl 1
set_option maxHeartbeats 4000000 in
set_option maxRecDepth 100000 in
theorem c_X4_flush (l : Launch) (hl9 : l.stackTraces = false) (dC : Nat → ClassId) (dI : Nat → Nat → Nat) (a : Nat → Nat) (k : Nat → ClassId) (LP : List Nat) (N : Nat) (L : Nat) (f1 f2 f3 f4 f5 f6 f7 f8 : Int32) (rd : Nat) (f10 f11 f12 : Int32) (n : Nat) (f14 : Int32) (lf : Int64) (wd : Nat → Int64) (ho ro pa : Nat → Int32) (rs : Nat → Option Nat) (E : Nat → Nat → Int32)  (sz : Nat) (p0 : Int32) (p1 : Int32) (hn : n ≤ N) (hN32 : N ≤ 32) (hrow : ∀ i, i < N → rs i = some (rowA rs i) ∧ rowA rs i ∈ LP) : vx_Met l yX4_flush (wX4_flush :: AW) ({ frames := 6, cells := 1, slots := 6, locals := 91 }) (va_Pc [.ref (a 0), .int p0, .int p1] (CPrX dC dI (CWl a k LP N L f1 f2 f3 f4 f5 f6 f7 f8 rd f10 f11 f12 n f14 lf wd ho ro pa rs E) [(k 0, .long), (k 1, .int), (k 2, .int), (k 3, .object "PageRows$Entry"), (k 4, .int)] sz)) (va_Qi (fun (r : Int32) (u : Nat × (Nat → Option Nat)) => .inr (r, u) = mX4_flush f1 n rs E p0 p1) (fun (u : Nat × (Nat → Option Nat)) (t : State) => match u with | (n', rs') => va_P (dC, dI) vwCl (CWl a k LP N L f1 f2 f3 f4 f5 f6 f7 f8 rd f10 f11 f12 n' f14 lf wd ho ro pa rs' E) t.heap ∧ va_K (dC, dI) vwCl [(k 0, .long), (k 1, .int), (k 2, .int), (k 3, .object "PageRows$Entry"), (k 4, .int)] t ∧ va_D (va_A (CWl a k LP N L f1 f2 f3 f4 f5 f6 f7 f8 rd f10 f11 f12 n f14 lf wd ho ro pa rs E) sz) (CWl a k LP N L f1 f2 f3 f4 f5 f6 f7 f8 rd f10 f11 f12 n' f14 lf wd ho ro pa rs' E)) (va_A (CWl a k LP N L f1 f2 f3 f4 f5 f6 f7 f8 rd f10 f11 f12 n f14 lf wd ho ro pa rs E) sz)) (vx_X (fun u : Nat => .inl u = mX4_flush f1 n rs E p0 p1) (fun (E9 : String) (u : Nat) (t : State) => E9 = excN u ∧ va_P (dC, dI) vwCl (CWl a k LP N L f1 f2 f3 f4 f5 f6 f7 f8 rd f10 f11 f12 n f14 lf wd ho ro pa rs E) t.heap ∧ va_K (dC, dI) vwCl [(k 0, .long), (k 1, .int), (k 2, .int), (k 3, .object "PageRows$Entry"), (k 4, .int)] t ∧ va_D (va_A (CWl a k LP N L f1 f2 f3 f4 f5 f6 f7 f8 rd f10 f11 f12 n f14 lf wd ho ro pa rs E) sz) (CWl a k LP N L f1 f2 f3 f4 f5 f6 f7 f8 rd f10 f11 f12 n f14 lf wd ho ro pa rs E)) (va_A (CWl a k LP N L f1 f2 f3 f4 f5 f6 f7 f8 rd f10 f11 f12 n f14 lf wd ho ro pa rs E) sz)) 1 6 (va_A (CWl a k LP N L f1 f2 f3 f4 f5 f6 f7 f8 rd f10 f11 f12 n f14 lf wd ho ro pa rs E) sz) := by
  refine cx_ofX (cc := cX4_flush) (maxL := 3) (ret := some .int) (by decide) rfl (Nat.le_of_ble_eq_true rfl) ?_
  intro p e s m below meth c ls hx hb hr hts hown hlocks hml hEx hl hB
  have hta : ∀ w ∈ AW, w.before [.ref (a 0), .int p0, .int p1].toArray s = true := fun w h => hts w (List.mem_cons_of_mem _ h)
  have hl : lv_has ls 3 [(0, .ref (a 0)), (1, .int p0), (2, .int p1)] := hl
  have hown : s.vm.findClass RX4 = some m.cls := hown
  obtain ⟨⟨rfl, ⟨hP, hK, hN⟩, hD0⟩, hXW, hXZ⟩ := hB
  have hD := hD0.self (sz := s.heap.size)
  generalize hAe : va_A (CWl a k LP N L f1 f2 f3 f4 f5 f6 f7 f8 rd f10 f11 f12 n f14 lf wd ho ro pa rs E) s.heap.size = A at hD hXZ ⊢
  have hA : ∀ q : Nat, s.heap.size ≤ q → A q := fun q h => by rw [← hAe]; exact Or.inr h
  have hS : va_S A s.heap s.heap [] := va_S.rf
  refine lv_iload_n hx hb dX4_flush_0 rfl (lv_at hl 1 rfl) ?_
  refine lv_if_lt (tgt := 9) hx hb dX4_flush_1 (by decide) (fun c_1_0 => ?_) (fun c_1_0 => ?_)
  · exact cx_throwA hx hb hl9 hown hta aw_326 aw_48 (List.mem_of_getElem? (i := 5) rfl) hXW hXZ hS hl hml dX4_flush_9 dX4_flush_12 dX4_flush_13 dX4_flush_15 dX4_flush_18 hEx (Nat.le_of_ble_eq_true rfl) (Nat.le_of_ble_eq_true rfl) (Nat.le_of_ble_eq_true rfl) (Nat.le_of_ble_eq_true rfl) hlocks hS.2.2 (Nat.le_of_ble_eq_true rfl) (Nat.le_of_ble_eq_true rfl) (fun t ha hsz hk => ⟨1, (by unfold mX4_flush; rewrite [if_pos c_1_0]; (first | done | rfl)), ⟨rfl, hP.kept (fun k q hq => hk q.1 (hP k q hq).lt), va_K.moved ha hK, hD⟩, Nat.le_trans hS.1 hsz, fun q h1 h2 => (hk q (Nat.lt_of_lt_of_le h1 hS.1)).trans (hS.2.1 q h1 h2)⟩)
  · refine lv_iload_n hx hb dX4_flush_4 rfl (lv_at hl 1 rfl) ?_
    refine lv_iconst (v := 2) hx hb dX4_flush_5 (by decide) ?_
    refine lv_icmp_le (tgt := 19) hx hb dX4_flush_6 (by decide) (fun c_6_1 => ?_) (fun c_6_1 => ?_)
    · refine lv_aload_n hx hb dX4_flush_19 rfl (lv_at hl 0 rfl) ?_
      refine va_get (D := (dC, dI)) (ci := 4) (v := .ref (a 6)) (C := RX4) (T := TX4) (N := 12) hx hb hta inA_X4 hown hK hP 0 rfl rfl 3 (by decide) (hta _ aw_175) (fun _ h9 => h9) rfl dX4_flush_20 ?_
      refine lv_iload_n hx hb dX4_flush_23 rfl (lv_at hl 1 rfl) ?_
      refine lv_aload_n hx hb dX4_flush_24 rfl (lv_at hl 0 rfl) ?_
      refine va_get (D := (dC, dI)) (ci := 4) (v := .int f1) (C := RX4) (T := TX4) (N := 12) hx hb hta inA_X4 hown hK hP 0 rfl rfl 5 (by decide) (hta _ aw_177) (fun _ h9 => h9) rfl dX4_flush_25 ?_
      refine lv_iload_n hx hb dX4_flush_28 rfl (lv_at hl 2 rfl) ?_
      have hFc : ∀ q, va_A (CWl a k LP N L f1 f2 f3 f4 f5 f6 f7 f8 rd f10 f11 f12 n f14 lf wd ho ro pa rs E) s.heap.size q → A q := cx_free hD hS hA
      refine va_calli (va_runVN (As := [.int p0, .int f1, .int p1]) (rest := []) ⟨hx, hb, hml, hown, hta⟩ (c_X0_forget l dC dI a k LP N L f1 f2 f3 f4 f5 f6 f7 f8 rd f10 f11 f12 n f14 lf wd ho ro pa rs E s.heap.size p0 f1 p1 hn hN32 hrow) ⟨va_cnB 3 hta (gC aw_476) rfl rfl rfl (hN.nm 22 rfl) (hta _ aw_41) (by decide +kernel) ⟨Nat.le_of_ble_eq_true rfl, Nat.le_of_ble_eq_true rfl⟩, (hta _ aw_475), (hta _ aw_17)⟩ (cx_preVQ hK hP hN (va_recv hK hP (ci := 0) (q0 := 6) rfl rfl) hD) rfl rfl hl.1 rfl (lv_room (Nat.le_of_ble_eq_true rfl)) dX4_flush_29 ⟨Nat.le_of_ble_eq_true rfl, Nat.le_of_ble_eq_true rfl⟩) hS (fun q _ h => hFc q h) hFc (fun r_3 u t9 H1 locs ht hvm hw_3 hB hz1 hk1 hS => ?_)
      obtain ⟨n_3, rs_3⟩ := u
      obtain ⟨hP, hK1, hD1⟩ := hB
      rw [ht] at hP
      have hD := hD1.weaken (fun _ _ _ h => hFc _ h)
      clear hFc hz1 hk1 hK1 hD1 ht hvm
      generalize H1 = H at hP hS ⊢
      have hP : va_P (dC, dI) vwCl (CWl a k LP N L f1 f2 f3 f4 f5 f6 f7 f8 rd f10 f11 f12 n_3 f14 lf wd ho ro pa rs_3 E) H := hP
      have hD : va_D A (CWl a k LP N L f1 f2 f3 f4 f5 f6 f7 f8 rd f10 f11 f12 n_3 f14 lf wd ho ro pa rs_3 E) := hD
      refine vx_ret ?_
      refine W.widen (k := 1) (n := 6) (Nat.le_of_ble_eq_true rfl) (Nat.le_of_ble_eq_true rfl) ?_
      exact W.iret (v := r_3) hx hb hr (fun t ht hW => ⟨⟨r_3, (n_3, rs_3), rfl, (by unfold mX4_flush; rewrite [if_neg c_1_0]; rewrite [if_pos c_6_1]; rewrite [← hw_3]; (try dsimp only); (first | done | rfl)), by rw [ht]; exact hP, va_K.moved hW.alike hK, hD⟩, hS.F ht⟩) hS.2.2 dX4_flush_32
    · exact cx_throwA hx hb hl9 hown hta aw_326 aw_48 (List.mem_of_getElem? (i := 5) rfl) hXW hXZ hS hl hml dX4_flush_9 dX4_flush_12 dX4_flush_13 dX4_flush_15 dX4_flush_18 hEx (Nat.le_of_ble_eq_true rfl) (Nat.le_of_ble_eq_true rfl) (Nat.le_of_ble_eq_true rfl) (Nat.le_of_ble_eq_true rfl) hlocks hS.2.2 (Nat.le_of_ble_eq_true rfl) (Nat.le_of_ble_eq_true rfl) (fun t ha hsz hk => ⟨1, (by unfold mX4_flush; rewrite [if_neg c_1_0]; rewrite [if_neg c_6_1]; (first | done | rfl)), ⟨rfl, hP.kept (fun k q hq => hk q.1 (hP k q hq).lt), va_K.moved ha hK, hD⟩, Nat.le_trans hS.1 hsz, fun q h1 h2 => (hk q (Nat.lt_of_lt_of_le h1 hS.1)).trans (hS.2.1 q h1 h2)⟩)
