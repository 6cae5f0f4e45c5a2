/-- PageRowsModel.isOf -/
def mX5_isOf (p0 : Int32) (p1 : Int32) : Int32 :=
  if p0 < 0 then
    (0 : Int32)
  else
    if p1 ≤ p0 then
      (0 : Int32)
    else
      (1 : Int32)
set_option maxHeartbeats 4000000 in
set_option maxRecDepth 100000 in
theorem c_X5_isOf (l : Launch) (p0 : Int32) (p1 : Int32) : Met l yX5_isOf (wX5_isOf :: AW) ({ frames := 0, cells := 0, slots := 0, locals := 0 }) (va_Pc [.int p0, .int p1] (fun _ => True)) (vp_Si (fun r => r = mX5_isOf p0 p1)) 0 0 (fun _ => False) := by
  refine cx_of (cc := cX5_isOf) (maxL := 2) (ret := some .boolean) (by decide) rfl (Nat.le_of_ble_eq_true rfl) ?_
  intro p e s m below meth c ls hx hb hr hts hown hlocks hml hnm hl hB
  have hta : ∀ w ∈ AW, w.before [.int p0, .int p1].toArray s = true := fun w h => hts w (List.mem_cons_of_mem _ h)
  have hl : lv_has ls 2 [(0, .int p0), (1, .int p1)] := hl
  have hown : s.vm.findClass RX5 = some m.cls := hown
  refine lv_iload_n hx hb dX5_isOf_0 rfl (lv_at hl 0 rfl) ?_
  refine lv_if_lt (tgt := 13) hx hb dX5_isOf_1 (by decide) (fun c_1_0 => ?_) (fun c_1_0 => ?_)
  · refine lv_iconst (v := 0) hx hb dX5_isOf_13 (by decide) ?_
    exact W.zret (ty := .boolean) (v := (0 : Int32)) hx hb hr rfl (fun t ht hW => ⟨(0 : Int32), rfl, (by unfold mX5_isOf; rewrite [if_pos c_1_0]; (first | done | rfl)), ht⟩) (fun q h => nomatch h) dX5_isOf_14
  · refine lv_iload_n hx hb dX5_isOf_4 rfl (lv_at hl 0 rfl) ?_
    refine lv_iload_n hx hb dX5_isOf_5 rfl (lv_at hl 1 rfl) ?_
    refine lv_icmp_ge (tgt := 13) hx hb dX5_isOf_6 (by decide) (fun c_6_1 => ?_) (fun c_6_1 => ?_)
    · refine lv_iconst (v := 0) hx hb dX5_isOf_13 (by decide) ?_
      exact W.zret (ty := .boolean) (v := (0 : Int32)) hx hb hr rfl (fun t ht hW => ⟨(0 : Int32), rfl, (by unfold mX5_isOf; rewrite [if_neg c_1_0]; rewrite [if_pos c_6_1]; (first | done | rfl)), ht⟩) (fun q h => nomatch h) dX5_isOf_14
    · refine lv_iconst (v := 1) hx hb dX5_isOf_9 (by decide) ?_
      refine lv_goto (tgt := 14) hx hb dX5_isOf_10 (by decide) ?_
      exact W.zret (ty := .boolean) (v := (1 : Int32)) hx hb hr rfl (fun t ht hW => ⟨(1 : Int32), rfl, (by unfold mX5_isOf; rewrite [if_neg c_1_0]; rewrite [if_neg c_6_1]; (first | done | rfl)), ht⟩) (fun q h => nomatch h) dX5_isOf_14
theorem mX5_isOf_z (p0 : Int32) (p1 : Int32) : narrow .boolean (.int (mX5_isOf p0 p1)) = .int (mX5_isOf p0 p1) := by
  unfold mX5_isOf
  repeat' split
  all_goals first | rfl | exact rfl
/-- PageRowsModel.frameOf -/
def mX5_frameOf (p0 : Int64) : Int32 :=
  ((jlshr p0 (8 : Int32)).toInt32) &&& (1048575 : Int32)
set_option maxHeartbeats 4000000 in
set_option maxRecDepth 100000 in
theorem c_X5_frameOf (l : Launch) (p0 : Int64) : Met l yX5_frameOf (wX5_frameOf :: AW) ({ frames := 0, cells := 0, slots := 0, locals := 0 }) (va_Pc [.long p0] (fun _ => True)) (vp_Si (fun r => r = mX5_frameOf p0)) 0 0 (fun _ => False) := by
  refine cx_of (cc := cX5_frameOf) (maxL := 2) (ret := some .int) (by decide) rfl (Nat.le_of_ble_eq_true rfl) ?_
  intro p e s m below meth c ls hx hb hr hts hown hlocks hml hnm hl hB
  have hta : ∀ w ∈ AW, w.before [.long p0].toArray s = true := fun w h => hts w (List.mem_cons_of_mem _ h)
  have hl : lv_has ls 2 [(0, .long p0)] := hl
  have hown : s.vm.findClass RX5 = some m.cls := hown
  refine lv_lload_n hx hb dX5_frameOf_0 rfl (lv_at hl 0 rfl) ?_
  refine lv_bipush (v := 8) hx hb dX5_frameOf_1 (by decide) ?_
  refine lv_lshr (v := jlshr p0 (8 : Int32)) hx hb dX5_frameOf_3 rfl ?_
  refine lv_l2i (v := (jlshr p0 (8 : Int32)).toInt32) hx hb dX5_frameOf_4 rfl ?_
  refine lv_ldc (v := 1048575) hx hb hown (hta _ aw_697) dX5_frameOf_5 ?_
  refine lv_iand hx hb dX5_frameOf_7 ?_
  exact W.iret (v := ((jlshr p0 (8 : Int32)).toInt32) &&& (1048575 : Int32)) hx hb hr (fun t ht hW => ⟨((jlshr p0 (8 : Int32)).toInt32) &&& (1048575 : Int32), rfl, (by unfold mX5_frameOf; (first | done | rfl)), ht⟩) (fun q h => nomatch h) dX5_frameOf_8
/-- PageRowsModel.rightsOf -/
def mX5_rightsOf (p0 : Int64) : Int32 :=
  ((jlshr p0 (1 : Int32)).toInt32) &&& (15 : Int32)
set_option maxHeartbeats 4000000 in
set_option maxRecDepth 100000 in
theorem c_X5_rightsOf (l : Launch) (p0 : Int64) : Met l yX5_rightsOf (wX5_rightsOf :: AW) ({ frames := 0, cells := 0, slots := 0, locals := 0 }) (va_Pc [.long p0] (fun _ => True)) (vp_Si (fun r => r = mX5_rightsOf p0)) 0 0 (fun _ => False) := by
  refine cx_of (cc := cX5_rightsOf) (maxL := 2) (ret := some .int) (by decide) rfl (Nat.le_of_ble_eq_true rfl) ?_
  intro p e s m below meth c ls hx hb hr hts hown hlocks hml hnm hl hB
  have hta : ∀ w ∈ AW, w.before [.long p0].toArray s = true := fun w h => hts w (List.mem_cons_of_mem _ h)
  have hl : lv_has ls 2 [(0, .long p0)] := hl
  have hown : s.vm.findClass RX5 = some m.cls := hown
  refine lv_lload_n hx hb dX5_rightsOf_0 rfl (lv_at hl 0 rfl) ?_
  refine lv_iconst (v := 1) hx hb dX5_rightsOf_1 (by decide) ?_
  refine lv_lshr (v := jlshr p0 (1 : Int32)) hx hb dX5_rightsOf_2 rfl ?_
  refine lv_l2i (v := (jlshr p0 (1 : Int32)).toInt32) hx hb dX5_rightsOf_3 rfl ?_
  refine lv_bipush (v := 15) hx hb dX5_rightsOf_4 (by decide) ?_
  refine lv_iand hx hb dX5_rightsOf_6 ?_
  exact W.iret (v := ((jlshr p0 (1 : Int32)).toInt32) &&& (15 : Int32)) hx hb hr (fun t ht hW => ⟨((jlshr p0 (1 : Int32)).toInt32) &&& (15 : Int32), rfl, (by unfold mX5_rightsOf; (first | done | rfl)), ht⟩) (fun q h => nomatch h) dX5_rightsOf_7
/-- PageRowsModel.does -/
def mX5_does (p0 : Int32) (p1 : Int32) : Int32 :=
  if ((p0 >>> ((p1 - p1 / (3 : Int32) * (3 : Int32)) &&& 31)) &&& (1 : Int32)) = (1 : Int32) then
    if p1 < (3 : Int32) then
      (1 : Int32)
    else
      if (p0 &&& (8 : Int32)) = (8 : Int32) then
        (1 : Int32)
      else
        (0 : Int32)
  else
    (0 : Int32)
set_option maxHeartbeats 4000000 in
set_option maxRecDepth 100000 in
theorem c_X5_does (l : Launch) (p0 : Int32) (p1 : Int32) : Met l yX5_does (wX5_does :: AW) ({ frames := 0, cells := 0, slots := 0, locals := 0 }) (va_Pc [.int p0, .int p1] (fun _ => True)) (vp_Si (fun r => r = mX5_does p0 p1)) 0 0 (fun _ => False) := by
  refine cx_of (cc := cX5_does) (maxL := 2) (ret := some .boolean) (by decide) rfl (Nat.le_of_ble_eq_true rfl) ?_
  intro p e s m below meth c ls hx hb hr hts hown hlocks hml hnm hl hB
  have hta : ∀ w ∈ AW, w.before [.int p0, .int p1].toArray s = true := fun w h => hts w (List.mem_cons_of_mem _ h)
  have hl : lv_has ls 2 [(0, .int p0), (1, .int p1)] := hl
  have hown : s.vm.findClass RX5 = some m.cls := hown
  refine lv_iload_n hx hb dX5_does_0 rfl (lv_at hl 0 rfl) ?_
  refine lv_iload_n hx hb dX5_does_1 rfl (lv_at hl 1 rfl) ?_
  refine lv_iconst (v := 3) hx hb dX5_does_2 (by decide) ?_
  refine lv_irem hx hb dX5_does_3 (by decide) ?_
  refine lv_ishr hx hb dX5_does_4 ?_
  refine lv_iconst (v := 1) hx hb dX5_does_5 (by decide) ?_
  refine lv_iand hx hb dX5_does_6 ?_
  refine lv_iconst (v := 1) hx hb dX5_does_7 (by decide) ?_
  refine lv_icmp_ne (tgt := 29) hx hb dX5_does_8 (by decide) (fun c_8_0 => ?_) (fun c_8_0 => ?_)
  · refine lv_iconst (v := 0) hx hb dX5_does_29 (by decide) ?_
    exact W.zret (ty := .boolean) (v := (0 : Int32)) hx hb hr rfl (fun t ht hW => ⟨(0 : Int32), rfl, (by unfold mX5_does; rewrite [if_neg c_8_0]; (first | done | rfl)), ht⟩) (fun q h => nomatch h) dX5_does_30
  · refine lv_iload_n hx hb dX5_does_11 rfl (lv_at hl 1 rfl) ?_
    refine lv_iconst (v := 3) hx hb dX5_does_12 (by decide) ?_
    refine lv_icmp_lt (tgt := 25) hx hb dX5_does_13 (by decide) (fun c_13_1 => ?_) (fun c_13_1 => ?_)
    · refine lv_iconst (v := 1) hx hb dX5_does_25 (by decide) ?_
      refine lv_goto (tgt := 30) hx hb dX5_does_26 (by decide) ?_
      exact W.zret (ty := .boolean) (v := (1 : Int32)) hx hb hr rfl (fun t ht hW => ⟨(1 : Int32), rfl, (by unfold mX5_does; rewrite [if_pos c_8_0]; rewrite [if_pos c_13_1]; (first | done | rfl)), ht⟩) (fun q h => nomatch h) dX5_does_30
    · refine lv_iload_n hx hb dX5_does_16 rfl (lv_at hl 0 rfl) ?_
      refine lv_bipush (v := 8) hx hb dX5_does_17 (by decide) ?_
      refine lv_iand hx hb dX5_does_19 ?_
      refine lv_bipush (v := 8) hx hb dX5_does_20 (by decide) ?_
      refine lv_icmp_ne (tgt := 29) hx hb dX5_does_22 (by decide) (fun c_22_2 => ?_) (fun c_22_2 => ?_)
      · refine lv_iconst (v := 0) hx hb dX5_does_29 (by decide) ?_
        exact W.zret (ty := .boolean) (v := (0 : Int32)) hx hb hr rfl (fun t ht hW => ⟨(0 : Int32), rfl, (by unfold mX5_does; rewrite [if_pos c_8_0]; rewrite [if_neg c_13_1]; rewrite [if_neg c_22_2]; (first | done | rfl)), ht⟩) (fun q h => nomatch h) dX5_does_30
      · refine lv_iconst (v := 1) hx hb dX5_does_25 (by decide) ?_
        refine lv_goto (tgt := 30) hx hb dX5_does_26 (by decide) ?_
        exact W.zret (ty := .boolean) (v := (1 : Int32)) hx hb hr rfl (fun t ht hW => ⟨(1 : Int32), rfl, (by unfold mX5_does; rewrite [if_pos c_8_0]; rewrite [if_neg c_13_1]; rewrite [if_pos c_22_2]; (first | done | rfl)), ht⟩) (fun q h => nomatch h) dX5_does_30
theorem mX5_does_z (p0 : Int32) (p1 : Int32) : narrow .boolean (.int (mX5_does p0 p1)) = .int (mX5_does p0 p1) := by
  unfold mX5_does
  repeat' split
  all_goals first | rfl | exact rfl
/-- PageRowsModel.behind -/
def mX5_behind (p0 : Int32) (p1 : Int32) : Int32 :=
  (p0 >>> ((8 : Int32) &&& 31)) &&& (((1 : Int32) <<< (((4 : Int32) * p1) &&& 31)) - (1 : Int32))
set_option maxHeartbeats 4000000 in
set_option maxRecDepth 100000 in
theorem c_X5_behind (l : Launch) (p0 : Int32) (p1 : Int32) : Met l yX5_behind (wX5_behind :: AW) ({ frames := 0, cells := 0, slots := 0, locals := 0 }) (va_Pc [.int p0, .int p1] (fun _ => True)) (vp_Si (fun r => r = mX5_behind p0 p1)) 0 0 (fun _ => False) := by
  refine cx_of (cc := cX5_behind) (maxL := 2) (ret := some .int) (by decide) rfl (Nat.le_of_ble_eq_true rfl) ?_
  intro p e s m below meth c ls hx hb hr hts hown hlocks hml hnm hl hB
  have hta : ∀ w ∈ AW, w.before [.int p0, .int p1].toArray s = true := fun w h => hts w (List.mem_cons_of_mem _ h)
  have hl : lv_has ls 2 [(0, .int p0), (1, .int p1)] := hl
  have hown : s.vm.findClass RX5 = some m.cls := hown
  refine lv_iload_n hx hb dX5_behind_0 rfl (lv_at hl 0 rfl) ?_
  refine lv_bipush (v := 8) hx hb dX5_behind_1 (by decide) ?_
  refine lv_ishr hx hb dX5_behind_3 ?_
  refine lv_iconst (v := 1) hx hb dX5_behind_4 (by decide) ?_
  refine lv_iconst (v := 4) hx hb dX5_behind_5 (by decide) ?_
  refine lv_iload_n hx hb dX5_behind_6 rfl (lv_at hl 1 rfl) ?_
  refine lv_imul hx hb dX5_behind_7 ?_
  refine lv_ishl hx hb dX5_behind_8 ?_
  refine lv_iconst (v := 1) hx hb dX5_behind_9 (by decide) ?_
  refine lv_isub hx hb dX5_behind_10 ?_
  refine lv_iand hx hb dX5_behind_11 ?_
  exact W.iret (v := (p0 >>> ((8 : Int32) &&& 31)) &&& (((1 : Int32) <<< (((4 : Int32) * p1) &&& 31)) - (1 : Int32))) hx hb hr (fun t ht hW => ⟨(p0 >>> ((8 : Int32) &&& 31)) &&& (((1 : Int32) <<< (((4 : Int32) * p1) &&& 31)) - (1 : Int32)), rfl, (by unfold mX5_behind; (first | done | rfl)), ht⟩) (fun q h => nomatch h) dX5_behind_12
/-- PageRowsModel.thrown -/
def mX5_thrown (th : Int32) : Int32 :=
  th
set_option maxHeartbeats 4000000 in
set_option maxRecDepth 100000 in
theorem c_X5_thrown (l : Launch) (dC : Nat → ClassId) (dI : Nat → Nat → Nat) (ga : Nat → Nat) (gk : Nat → ClassId) (th : Int32) (L : Nat) (N : Nat) (mm : Nat → Int64) (f1 : Int32) (mr : Nat → Int32) (mh : Nat → Int32) (f8 : Int32) (en : Nat) (us : Nat) (eC : Nat → Int32) (eL : Nat → Int32) (eB : Nat → Int32) (eF : Nat → Int32) (eR : Nat → Int32) (eU : Nat → Int32) (eX : Nat → Int32) (f2 : Int32) (f3 : Int32) (f4 : Int32) (f5 : Int32) (f6 : Int32) (f7 : Int32) (f14 : Int32) (ff : Int32) (fa : Int32) (mn : Nat) (lg : Int32) (cm : Int32) (wa : Nat → Int32)    : Met l yX5_thrown (wX5_thrown :: AW) ({ frames := 0, cells := 0, slots := 0, locals := 0 }) (va_Pc [.ref (ga 0)] (CPre dC dI (MWl ga gk th L N mm f1 mr mh f8 en us eC eL eB eF eR eU eX f2 f3 f4 f5 f6 f7 f14 ff fa mn lg cm wa) [(gk 0, .long), (gk 1, .int), (gk 2, .int), (gk 3, .int), (gk 4, .int), (gk 5, .int), (gk 6, .int), (gk 7, .int), (gk 8, .int), (gk 9, .boolean), (gk 10, .int)])) (vp_Si (fun r => r = mX5_thrown th)) 0 0 (fun _ => False) := by
  refine cx_of (cc := cX5_thrown) (maxL := 1) (ret := some .int) (by decide) rfl (Nat.le_of_ble_eq_true rfl) ?_
  intro p e s m below meth c ls hx hb hr hts hown hlocks hml hnm hl hB
  have hta : ∀ w ∈ AW, w.before [.ref (ga 0)].toArray s = true := fun w h => hts w (List.mem_cons_of_mem _ h)
  have hl : lv_has ls 1 [(0, .ref (ga 0))] := hl
  have hown : s.vm.findClass RX5 = some m.cls := hown
  obtain ⟨hP, hK, hN⟩ := hB
  refine lv_aload_n hx hb dX5_thrown_0 rfl (lv_at hl 0 rfl) ?_
  refine va_get (D := (dC, dI)) (ci := 5) (v := .int th) (C := RX5) (T := TX5) (N := 30) hx hb hta inA_X5 hown hK hP 0 rfl rfl 0 (by decide) (hta _ aw_511) (fun _ h9 => h9) rfl dX5_thrown_1 ?_
  exact W.iret (v := th) hx hb hr (fun t ht hW => ⟨th, rfl, (by unfold mX5_thrown; (first | done | rfl)), ht⟩) (fun q h => nomatch h) dX5_thrown_4
/-- PageRowsModel.throwing -/
def mX5_throwing (p0 : Int32) (p1 : Int32) : Int32 × Int32 :=
  if p0 = 0 then
    if p1 = 0 then
      ((0 : Int32), (0 : Int32))
    else
      ((1 : Int32), (2 : Int32))
  else
    ((1 : Int32), (1 : Int32))
set_option maxHeartbeats 4000000 in
set_option maxRecDepth 100000 in
theorem c_X5_throwing (l : Launch) (dC : Nat → ClassId) (dI : Nat → Nat → Nat) (ga : Nat → Nat) (gk : Nat → ClassId) (th : Int32) (L : Nat) (N : Nat) (mm : Nat → Int64) (f1 : Int32) (mr : Nat → Int32) (mh : Nat → Int32) (f8 : Int32) (en : Nat) (us : Nat) (eC : Nat → Int32) (eL : Nat → Int32) (eB : Nat → Int32) (eF : Nat → Int32) (eR : Nat → Int32) (eU : Nat → Int32) (eX : Nat → Int32) (f2 : Int32) (f3 : Int32) (f4 : Int32) (f5 : Int32) (f6 : Int32) (f7 : Int32) (f14 : Int32) (ff : Int32) (fa : Int32) (mn : Nat) (lg : Int32) (cm : Int32) (wa : Nat → Int32)  (sz : Nat) (p0 : Int32) (p1 : Int32)  : Met l yX5_throwing (wX5_throwing :: AW) ({ frames := 0, cells := 0, slots := 0, locals := 0 }) (va_Pc [.ref (ga 0), .int p0, .int p1] (CPrQ dC dI (MWl ga gk th L N mm f1 mr mh f8 en us eC eL eB eF eR eU eX f2 f3 f4 f5 f6 f7 f14 ff fa mn lg cm wa) [(gk 0, .long), (gk 1, .int), (gk 2, .int), (gk 3, .int), (gk 4, .int), (gk 5, .int), (gk 6, .int), (gk 7, .int), (gk 8, .int), (gk 9, .boolean), (gk 10, .int)] sz)) (va_Qi (fun (r : Int32) (u : Int32) => (r, u) = mX5_throwing p0 p1) (fun (u : Int32) (t : State) => match u with | th' => va_P (dC, dI) vwCl (MWl ga gk th' L N mm f1 mr mh f8 en us eC eL eB eF eR eU eX f2 f3 f4 f5 f6 f7 f14 ff fa mn lg cm wa) t.heap ∧ va_K (dC, dI) vwCl [(gk 0, .long), (gk 1, .int), (gk 2, .int), (gk 3, .int), (gk 4, .int), (gk 5, .int), (gk 6, .int), (gk 7, .int), (gk 8, .int), (gk 9, .boolean), (gk 10, .int)] t ∧ va_D (va_A (MWl ga gk th L N mm f1 mr mh f8 en us eC eL eB eF eR eU eX f2 f3 f4 f5 f6 f7 f14 ff fa mn lg cm wa) sz) (MWl ga gk th' L N mm f1 mr mh f8 en us eC eL eB eF eR eU eX f2 f3 f4 f5 f6 f7 f14 ff fa mn lg cm wa)) (va_A (MWl ga gk th L N mm f1 mr mh f8 en us eC eL eB eF eR eU eX f2 f3 f4 f5 f6 f7 f14 ff fa mn lg cm wa) sz)) 0 0 (va_A (MWl ga gk th L N mm f1 mr mh f8 en us eC eL eB eF eR eU eX f2 f3 f4 f5 f6 f7 f14 ff fa mn lg cm wa) sz) := by
  refine cx_of (cc := cX5_throwing) (maxL := 3) (ret := some .boolean) (by decide) rfl (Nat.le_of_ble_eq_true rfl) ?_
  intro p e s m below meth c ls hx hb hr hts hown hlocks hml hnm hl hB
  have hta : ∀ w ∈ AW, w.before [.ref (ga 0), .int p0, .int p1].toArray s = true := fun w h => hts w (List.mem_cons_of_mem _ h)
  have hl : lv_has ls 3 [(0, .ref (ga 0)), (1, .int p0), (2, .int p1)] := hl
  have hown : s.vm.findClass RX5 = some m.cls := hown
  obtain ⟨rfl, ⟨hP, hK, hN⟩, hD0⟩ := hB
  have hD := hD0.self (sz := s.heap.size)
  generalize hAe : va_A (MWl ga gk th L N mm f1 mr mh f8 en us eC eL eB eF eR eU eX f2 f3 f4 f5 f6 f7 f14 ff fa mn lg cm wa) s.heap.size = A at hD ⊢
  have hA : ∀ q : Nat, s.heap.size ≤ q → A q := fun q h => by rw [← hAe]; exact Or.inr h
  have hS : va_S A s.heap s.heap [] := va_S.rf
  refine lv_aload_n hx hb dX5_throwing_0 rfl (lv_at hl 0 rfl) ?_
  refine lv_iload_n hx hb dX5_throwing_1 rfl (lv_at hl 1 rfl) ?_
  refine lv_if_eq (tgt := 9) hx hb dX5_throwing_2 (by decide) (fun c_2_0 => ?_) (fun c_2_0 => ?_)
  · refine lv_iload_n hx hb dX5_throwing_9 rfl (lv_at hl 2 rfl) ?_
    refine lv_if_eq (tgt := 17) hx hb dX5_throwing_10 (by decide) (fun c_10_1 => ?_) (fun c_10_1 => ?_)
    · refine lv_iconst (v := 0) hx hb dX5_throwing_17 (by decide) ?_
      refine va_put (D := (dC, dI)) (ci := 5) (v := .int (0 : Int32)) (ty := .int) (C := RX5) (T := TX5) (N := 30) hx hb hta inA_X5 tyX5 tyX5_ok nmX5 hown hK hP hD hS 0 rfl rfl 0 (by decide) (hta _ aw_511) (fun _ h9 => h9) rfl (by decide +kernel) rfl rfl (Nat.le_of_ble_eq_true rfl) dX5_throwing_18 (fun H locs hP hD hS => ?_)
      have hP : va_P (dC, dI) vwCl (MWl ga gk (0 : Int32) L N mm f1 mr mh f8 en us eC eL eB eF eR eU eX f2 f3 f4 f5 f6 f7 f14 ff fa mn lg cm wa) H := hP
      have hD : va_D A (MWl ga gk (0 : Int32) L N mm f1 mr mh f8 en us eC eL eB eF eR eU eX f2 f3 f4 f5 f6 f7 f14 ff fa mn lg cm wa) := hD
      refine lv_aload_n hx hb dX5_throwing_21 rfl (lv_at hl 0 rfl) ?_
      refine va_get (D := (dC, dI)) (ci := 5) (v := .int (0 : Int32)) (C := RX5) (T := TX5) (N := 30) hx hb hta inA_X5 hown hK hP 0 rfl rfl 0 (by decide) (hta _ aw_511) (fun _ h9 => h9) rfl dX5_throwing_22 ?_
      refine lv_if_le (tgt := 32) hx hb dX5_throwing_25 (by decide) (fun c_25_2 => ?_) (fun c_25_2 => ?_)
      · refine lv_iconst (v := 0) hx hb dX5_throwing_32 (by decide) ?_
        exact W.zret (ty := .boolean) (v := (0 : Int32)) hx hb hr rfl (fun t ht hW => ⟨⟨(0 : Int32), (0 : Int32), rfl, (by unfold mX5_throwing; rewrite [if_pos c_2_0]; rewrite [if_pos c_10_1]; (first | done | rfl)), by rw [ht]; exact hP, va_K.moved hW.alike hK, hD⟩, hS.F ht⟩) hS.2.2 dX5_throwing_33
      · exact absurd (by decide) c_25_2
    · refine lv_iconst (v := 2) hx hb dX5_throwing_13 (by decide) ?_
      refine lv_goto (tgt := 18) hx hb dX5_throwing_14 (by decide) ?_
      refine va_put (D := (dC, dI)) (ci := 5) (v := .int (2 : Int32)) (ty := .int) (C := RX5) (T := TX5) (N := 30) hx hb hta inA_X5 tyX5 tyX5_ok nmX5 hown hK hP hD hS 0 rfl rfl 0 (by decide) (hta _ aw_511) (fun _ h9 => h9) rfl (by decide +kernel) rfl rfl (Nat.le_of_ble_eq_true rfl) dX5_throwing_18 (fun H locs hP hD hS => ?_)
      have hP : va_P (dC, dI) vwCl (MWl ga gk (2 : Int32) L N mm f1 mr mh f8 en us eC eL eB eF eR eU eX f2 f3 f4 f5 f6 f7 f14 ff fa mn lg cm wa) H := hP
      have hD : va_D A (MWl ga gk (2 : Int32) L N mm f1 mr mh f8 en us eC eL eB eF eR eU eX f2 f3 f4 f5 f6 f7 f14 ff fa mn lg cm wa) := hD
      refine lv_aload_n hx hb dX5_throwing_21 rfl (lv_at hl 0 rfl) ?_
      refine va_get (D := (dC, dI)) (ci := 5) (v := .int (2 : Int32)) (C := RX5) (T := TX5) (N := 30) hx hb hta inA_X5 hown hK hP 0 rfl rfl 0 (by decide) (hta _ aw_511) (fun _ h9 => h9) rfl dX5_throwing_22 ?_
      refine lv_if_le (tgt := 32) hx hb dX5_throwing_25 (by decide) (fun c_25_3 => ?_) (fun c_25_3 => ?_)
      · exact absurd c_25_3 (by decide)
      · refine lv_iconst (v := 1) hx hb dX5_throwing_28 (by decide) ?_
        refine lv_goto (tgt := 33) hx hb dX5_throwing_29 (by decide) ?_
        exact W.zret (ty := .boolean) (v := (1 : Int32)) hx hb hr rfl (fun t ht hW => ⟨⟨(1 : Int32), (2 : Int32), rfl, (by unfold mX5_throwing; rewrite [if_pos c_2_0]; rewrite [if_neg c_10_1]; (first | done | rfl)), by rw [ht]; exact hP, va_K.moved hW.alike hK, hD⟩, hS.F ht⟩) hS.2.2 dX5_throwing_33
  · refine lv_iconst (v := 1) hx hb dX5_throwing_5 (by decide) ?_
    refine lv_goto (tgt := 18) hx hb dX5_throwing_6 (by decide) ?_
    refine va_put (D := (dC, dI)) (ci := 5) (v := .int (1 : Int32)) (ty := .int) (C := RX5) (T := TX5) (N := 30) hx hb hta inA_X5 tyX5 tyX5_ok nmX5 hown hK hP hD hS 0 rfl rfl 0 (by decide) (hta _ aw_511) (fun _ h9 => h9) rfl (by decide +kernel) rfl rfl (Nat.le_of_ble_eq_true rfl) dX5_throwing_18 (fun H locs hP hD hS => ?_)
    have hP : va_P (dC, dI) vwCl (MWl ga gk (1 : Int32) L N mm f1 mr mh f8 en us eC eL eB eF eR eU eX f2 f3 f4 f5 f6 f7 f14 ff fa mn lg cm wa) H := hP
    have hD : va_D A (MWl ga gk (1 : Int32) L N mm f1 mr mh f8 en us eC eL eB eF eR eU eX f2 f3 f4 f5 f6 f7 f14 ff fa mn lg cm wa) := hD
    refine lv_aload_n hx hb dX5_throwing_21 rfl (lv_at hl 0 rfl) ?_
    refine va_get (D := (dC, dI)) (ci := 5) (v := .int (1 : Int32)) (C := RX5) (T := TX5) (N := 30) hx hb hta inA_X5 hown hK hP 0 rfl rfl 0 (by decide) (hta _ aw_511) (fun _ h9 => h9) rfl dX5_throwing_22 ?_
    refine lv_if_le (tgt := 32) hx hb dX5_throwing_25 (by decide) (fun c_25_4 => ?_) (fun c_25_4 => ?_)
    · exact absurd c_25_4 (by decide)
    · refine lv_iconst (v := 1) hx hb dX5_throwing_28 (by decide) ?_
      refine lv_goto (tgt := 33) hx hb dX5_throwing_29 (by decide) ?_
      exact W.zret (ty := .boolean) (v := (1 : Int32)) hx hb hr rfl (fun t ht hW => ⟨⟨(1 : Int32), (1 : Int32), rfl, (by unfold mX5_throwing; rewrite [if_neg c_2_0]; (first | done | rfl)), by rw [ht]; exact hP, va_K.moved hW.alike hK, hD⟩, hS.F ht⟩) hS.2.2 dX5_throwing_33
theorem of_in {x M : Int32} {n : Nat} (h : ¬ mX5_isOf x M = 0) (hM : M = nI n) (hn : n < 2 ^ 31 := by decide) : vp_in x n := by
  unfold mX5_isOf at h
  by_cases h1 : x < 0
  · rw [if_pos h1] at h
    exact absurd rfl h
  · rw [if_neg h1] at h
    by_cases h2 : M ≤ x
    · rw [if_pos h2] at h
      exact absurd rfl h
    · exact cx_in h1 h2 hM hn
/-- 'throwing' of one condition: its answer tells it -/
theorem thr1 {x r t : Int32} (h : (r, t) = mX5_throwing x 0) (hr : r = 0) : x = 0 := by
  unfold mX5_throwing at h
  by_cases hx : x = 0
  · exact hx
  · rw [if_neg hx] at h
    exact absurd hr (by cases h; decide)
/-- PageRowsModel.mapped -/
def mX5_mapped (mh : Nat → Int32) (f8 : Int32) (p0 : Int32) : Int32 :=
  if f8 = 0 then
    p0
  else
    if (mX5_isOf p0 (256 : Int32)) = 0 then
      (-1 : Int32)
    else
      mh p0.toNatClampNeg
set_option maxHeartbeats 4000000 in
set_option maxRecDepth 100000 in
theorem c_X5_mapped (l : Launch) (dC : Nat → ClassId) (dI : Nat → Nat → Nat) (ga : Nat → Nat) (gk : Nat → ClassId) (th : Int32) (L : Nat) (N : Nat) (mm : Nat → Int64) (f1 : Int32) (mr : Nat → Int32) (mh : Nat → Int32) (f8 : Int32) (en : Nat) (us : Nat) (eC : Nat → Int32) (eL : Nat → Int32) (eB : Nat → Int32) (eF : Nat → Int32) (eR : Nat → Int32) (eU : Nat → Int32) (eX : Nat → Int32) (f2 : Int32) (f3 : Int32) (f4 : Int32) (f5 : Int32) (f6 : Int32) (f7 : Int32) (f14 : Int32) (ff : Int32) (fa : Int32) (mn : Nat) (lg : Int32) (cm : Int32) (wa : Nat → Int32)  (p0 : Int32)  : Met l yX5_mapped (wX5_mapped :: AW) ({ frames := 1, cells := 0, slots := 0, locals := 21 }) (va_Pc [.ref (ga 0), .int p0] (CPre dC dI (MWl ga gk th L N mm f1 mr mh f8 en us eC eL eB eF eR eU eX f2 f3 f4 f5 f6 f7 f14 ff fa mn lg cm wa) [(gk 0, .long), (gk 1, .int), (gk 2, .int), (gk 3, .int), (gk 4, .int), (gk 5, .int), (gk 6, .int), (gk 7, .int), (gk 8, .int), (gk 9, .boolean), (gk 10, .int)])) (vp_Si (fun r => r = mX5_mapped mh f8 p0)) 0 0 (fun _ => False) := by
  refine cx_of (cc := cX5_mapped) (maxL := 2) (ret := some .int) (by decide) rfl (Nat.le_of_ble_eq_true rfl) ?_
  intro p e s m below meth c ls hx hb hr hts hown hlocks hml hnm hl hB
  have hta : ∀ w ∈ AW, w.before [.ref (ga 0), .int p0].toArray s = true := fun w h => hts w (List.mem_cons_of_mem _ h)
  have hl : lv_has ls 2 [(0, .ref (ga 0)), (1, .int p0)] := hl
  have hown : s.vm.findClass RX5 = some m.cls := hown
  obtain ⟨hP, hK, hN⟩ := hB
  refine lv_aload_n hx hb dX5_mapped_0 rfl (lv_at hl 0 rfl) ?_
  refine va_get (D := (dC, dI)) (ci := 5) (v := .int f8) (C := RX5) (T := TX5) (N := 30) hx hb hta inA_X5 hown hK hP 0 rfl rfl 7 (by decide) (hta _ aw_518) (fun _ h9 => h9) rfl dX5_mapped_1 ?_
  refine lv_if_ne (tgt := 11) hx hb dX5_mapped_4 (by decide) (fun c_4_0 => ?_) (fun c_4_0 => ?_)
  · refine lv_iload_n hx hb dX5_mapped_11 rfl (lv_at hl 1 rfl) ?_
    refine lv_sipush (v := 256) hx hb dX5_mapped_12 (by decide) ?_
    refine cx_callSi (va_runS (As := [.int p0, .int (256 : Int32)]) (rest := []) ⟨hx, hb, hml, hown, hta⟩ (c_X5_isOf l p0 (256 : Int32)) (va_cwS 2 hta (gS aw_611 aw_612 aw_43 aw_613) rfl rfl rfl (by decide +kernel) ⟨Nat.le_of_ble_eq_true rfl, Nat.le_of_ble_eq_true rfl⟩) cx_pre0 rfl rfl hl.1 rfl (lv_room (Nat.le_of_ble_eq_true rfl)) dX5_mapped_15 ⟨Nat.le_of_ble_eq_true rfl, Nat.le_of_ble_eq_true rfl⟩) (fun r hw_2 => ?_)
    subst hw_2
    refine lv_if_eq (tgt := 30) hx hb dX5_mapped_18 (by decide) (fun c_18_2 => ?_) (fun c_18_2 => ?_)
    · refine lv_iconst (v := (-1)) hx hb dX5_mapped_30 (by decide) ?_
      exact W.iret (v := (-1 : Int32)) hx hb hr (fun t ht hW => ⟨(-1 : Int32), rfl, (by unfold mX5_mapped; rewrite [if_neg c_4_0]; rewrite [if_pos c_18_2]; (first | done | rfl)), ht⟩) (fun q h => nomatch h) dX5_mapped_31
    · refine lv_aload_n hx hb dX5_mapped_21 rfl (lv_at hl 0 rfl) ?_
      refine va_get (D := (dC, dI)) (ci := 5) (v := .ref (ga 3)) (C := RX5) (T := TX5) (N := 30) hx hb hta inA_X5 hown hK hP 0 rfl rfl 6 (by decide) (hta _ aw_517) (fun _ h9 => h9) rfl dX5_mapped_22 ?_
      refine lv_iload_n hx hb dX5_mapped_25 rfl (lv_at hl 1 rfl) ?_
      refine va_iald hx hb hK hP 3 2 rfl rfl (of_in c_18_2 rfl) dX5_mapped_26 ?_
      refine lv_goto (tgt := 31) hx hb dX5_mapped_27 (by decide) ?_
      exact W.iret (v := mh p0.toNatClampNeg) hx hb hr (fun t ht hW => ⟨mh p0.toNatClampNeg, rfl, (by unfold mX5_mapped; rewrite [if_neg c_4_0]; rewrite [if_neg c_18_2]; (first | done | rfl)), ht⟩) (fun q h => nomatch h) dX5_mapped_31
  · refine lv_iload_n hx hb dX5_mapped_7 rfl (lv_at hl 1 rfl) ?_
    refine lv_goto (tgt := 31) hx hb dX5_mapped_8 (by decide) ?_
    exact W.iret (v := p0) hx hb hr (fun t ht hW => ⟨p0, rfl, (by unfold mX5_mapped; rewrite [if_pos c_4_0]; (first | done | rfl)), ht⟩) (fun q h => nomatch h) dX5_mapped_31
/-- PageRowsModel.isOutside -/
def mX5_isOutside (L : Nat) (p0 : Int32) : Int32 :=
  if p0 < 0 then
    (1 : Int32)
  else
    if (p0 >>> (((8 : Int32) + ((4 : Int32) * (nI L))) &&& 31)) ≤ 0 then
      (0 : Int32)
    else
      (1 : Int32)
set_option maxHeartbeats 4000000 in
set_option maxRecDepth 100000 in
theorem c_X5_isOutside (l : Launch) (dC : Nat → ClassId) (dI : Nat → Nat → Nat) (ga : Nat → Nat) (gk : Nat → ClassId) (th : Int32) (L : Nat) (N : Nat) (mm : Nat → Int64) (f1 : Int32) (mr : Nat → Int32) (mh : Nat → Int32) (f8 : Int32) (en : Nat) (us : Nat) (eC : Nat → Int32) (eL : Nat → Int32) (eB : Nat → Int32) (eF : Nat → Int32) (eR : Nat → Int32) (eU : Nat → Int32) (eX : Nat → Int32) (f2 : Int32) (f3 : Int32) (f4 : Int32) (f5 : Int32) (f6 : Int32) (f7 : Int32) (f14 : Int32) (ff : Int32) (fa : Int32) (mn : Nat) (lg : Int32) (cm : Int32) (wa : Nat → Int32)  (p0 : Int32)  : Met l yX5_isOutside (wX5_isOutside :: AW) ({ frames := 0, cells := 0, slots := 0, locals := 0 }) (va_Pc [.ref (ga 0), .int p0] (CPre dC dI (MWl ga gk th L N mm f1 mr mh f8 en us eC eL eB eF eR eU eX f2 f3 f4 f5 f6 f7 f14 ff fa mn lg cm wa) [(gk 0, .long), (gk 1, .int), (gk 2, .int), (gk 3, .int), (gk 4, .int), (gk 5, .int), (gk 6, .int), (gk 7, .int), (gk 8, .int), (gk 9, .boolean), (gk 10, .int)])) (vp_Si (fun r => r = mX5_isOutside L p0)) 0 0 (fun _ => False) := by
  refine cx_of (cc := cX5_isOutside) (maxL := 2) (ret := some .boolean) (by decide) rfl (Nat.le_of_ble_eq_true rfl) ?_
  intro p e s m below meth c ls hx hb hr hts hown hlocks hml hnm hl hB
  have hta : ∀ w ∈ AW, w.before [.ref (ga 0), .int p0].toArray s = true := fun w h => hts w (List.mem_cons_of_mem _ h)
  have hl : lv_has ls 2 [(0, .ref (ga 0)), (1, .int p0)] := hl
  have hown : s.vm.findClass RX5 = some m.cls := hown
  obtain ⟨hP, hK, hN⟩ := hB
  refine lv_iload_n hx hb dX5_isOutside_0 rfl (lv_at hl 1 rfl) ?_
  refine lv_if_lt (tgt := 18) hx hb dX5_isOutside_1 (by decide) (fun c_1_0 => ?_) (fun c_1_0 => ?_)
  · refine lv_iconst (v := 1) hx hb dX5_isOutside_18 (by decide) ?_
    refine lv_goto (tgt := 23) hx hb dX5_isOutside_19 (by decide) ?_
    exact W.zret (ty := .boolean) (v := (1 : Int32)) hx hb hr rfl (fun t ht hW => ⟨(1 : Int32), rfl, (by unfold mX5_isOutside; rewrite [if_pos c_1_0]; (first | done | rfl)), ht⟩) (fun q h => nomatch h) dX5_isOutside_23
  · refine lv_iload_n hx hb dX5_isOutside_4 rfl (lv_at hl 1 rfl) ?_
    refine lv_bipush (v := 8) hx hb dX5_isOutside_5 (by decide) ?_
    refine lv_iconst (v := 4) hx hb dX5_isOutside_7 (by decide) ?_
    refine lv_aload_n hx hb dX5_isOutside_8 rfl (lv_at hl 0 rfl) ?_
    refine va_get (D := (dC, dI)) (ci := 5) (v := .int (nI L)) (C := RX5) (T := TX5) (N := 30) hx hb hta inA_X5 hown hK hP 0 rfl rfl 1 (by decide) (hta _ aw_512) (fun _ h9 => h9) rfl dX5_isOutside_9 ?_
    refine lv_imul hx hb dX5_isOutside_12 ?_
    refine lv_iadd hx hb dX5_isOutside_13 ?_
    refine lv_ishr hx hb dX5_isOutside_14 ?_
    refine lv_if_le (tgt := 22) hx hb dX5_isOutside_15 (by decide) (fun c_15_1 => ?_) (fun c_15_1 => ?_)
    · refine lv_iconst (v := 0) hx hb dX5_isOutside_22 (by decide) ?_
      exact W.zret (ty := .boolean) (v := (0 : Int32)) hx hb hr rfl (fun t ht hW => ⟨(0 : Int32), rfl, (by unfold mX5_isOutside; rewrite [if_neg c_1_0]; rewrite [if_pos c_15_1]; (first | done | rfl)), ht⟩) (fun q h => nomatch h) dX5_isOutside_23
    · refine lv_iconst (v := 1) hx hb dX5_isOutside_18 (by decide) ?_
      refine lv_goto (tgt := 23) hx hb dX5_isOutside_19 (by decide) ?_
      exact W.zret (ty := .boolean) (v := (1 : Int32)) hx hb hr rfl (fun t ht hW => ⟨(1 : Int32), rfl, (by unfold mX5_isOutside; rewrite [if_neg c_1_0]; rewrite [if_neg c_15_1]; (first | done | rfl)), ht⟩) (fun q h => nomatch h) dX5_isOutside_23
theorem mX5_isOutside_z (L : Nat) (p0 : Int32) : narrow .boolean (.int (mX5_isOutside L p0)) = .int (mX5_isOutside L p0) := by
  unfold mX5_isOutside
  repeat' split
  all_goals first | rfl | exact rfl
/-- PageRowsModel.fails -/
def mX5_fails (p0 : Int32) (p1 : Int32) : Int32 × Int32 × Int32 :=
  ((0 : Int32), p0, p1)
set_option maxHeartbeats 4000000 in
set_option maxRecDepth 100000 in
theorem c_X5_fails (l : Launch) (dC : Nat → ClassId) (dI : Nat → Nat → Nat) (ga : Nat → Nat) (gk : Nat → ClassId) (th : Int32) (L : Nat) (N : Nat) (mm : Nat → Int64) (f1 : Int32) (mr : Nat → Int32) (mh : Nat → Int32) (f8 : Int32) (en : Nat) (us : Nat) (eC : Nat → Int32) (eL : Nat → Int32) (eB : Nat → Int32) (eF : Nat → Int32) (eR : Nat → Int32) (eU : Nat → Int32) (eX : Nat → Int32) (f2 : Int32) (f3 : Int32) (f4 : Int32) (f5 : Int32) (f6 : Int32) (f7 : Int32) (f14 : Int32) (ff : Int32) (fa : Int32) (mn : Nat) (lg : Int32) (cm : Int32) (wa : Nat → Int32)  (sz : Nat) (p0 : Int32) (p1 : Int32)  : Met l yX5_fails (wX5_fails :: AW) ({ frames := 0, cells := 0, slots := 0, locals := 0 }) (va_Pc [.ref (ga 0), .int p0, .int p1] (CPrQ dC dI (MWl ga gk th L N mm f1 mr mh f8 en us eC eL eB eF eR eU eX f2 f3 f4 f5 f6 f7 f14 ff fa mn lg cm wa) [(gk 0, .long), (gk 1, .int), (gk 2, .int), (gk 3, .int), (gk 4, .int), (gk 5, .int), (gk 6, .int), (gk 7, .int), (gk 8, .int), (gk 9, .boolean), (gk 10, .int)] sz)) (va_Qi (fun (r : Int32) (u : Int32 × Int32) => (r, u) = mX5_fails p0 p1) (fun (u : Int32 × Int32) (t : State) => match u with | (ff', fa') => va_P (dC, dI) vwCl (MWl ga gk th L N mm f1 mr mh f8 en us eC eL eB eF eR eU eX f2 f3 f4 f5 f6 f7 f14 ff' fa' mn lg cm wa) t.heap ∧ va_K (dC, dI) vwCl [(gk 0, .long), (gk 1, .int), (gk 2, .int), (gk 3, .int), (gk 4, .int), (gk 5, .int), (gk 6, .int), (gk 7, .int), (gk 8, .int), (gk 9, .boolean), (gk 10, .int)] t ∧ va_D (va_A (MWl ga gk th L N mm f1 mr mh f8 en us eC eL eB eF eR eU eX f2 f3 f4 f5 f6 f7 f14 ff fa mn lg cm wa) sz) (MWl ga gk th L N mm f1 mr mh f8 en us eC eL eB eF eR eU eX f2 f3 f4 f5 f6 f7 f14 ff' fa' mn lg cm wa)) (va_A (MWl ga gk th L N mm f1 mr mh f8 en us eC eL eB eF eR eU eX f2 f3 f4 f5 f6 f7 f14 ff fa mn lg cm wa) sz)) 0 0 (va_A (MWl ga gk th L N mm f1 mr mh f8 en us eC eL eB eF eR eU eX f2 f3 f4 f5 f6 f7 f14 ff fa mn lg cm wa) sz) := by
  refine cx_of (cc := cX5_fails) (maxL := 3) (ret := some .boolean) (by decide) rfl (Nat.le_of_ble_eq_true rfl) ?_
  intro p e s m below meth c ls hx hb hr hts hown hlocks hml hnm hl hB
  have hta : ∀ w ∈ AW, w.before [.ref (ga 0), .int p0, .int p1].toArray s = true := fun w h => hts w (List.mem_cons_of_mem _ h)
  have hl : lv_has ls 3 [(0, .ref (ga 0)), (1, .int p0), (2, .int p1)] := hl
  have hown : s.vm.findClass RX5 = some m.cls := hown
  obtain ⟨rfl, ⟨hP, hK, hN⟩, hD0⟩ := hB
  have hD := hD0.self (sz := s.heap.size)
  generalize hAe : va_A (MWl ga gk th L N mm f1 mr mh f8 en us eC eL eB eF eR eU eX f2 f3 f4 f5 f6 f7 f14 ff fa mn lg cm wa) s.heap.size = A at hD ⊢
  have hA : ∀ q : Nat, s.heap.size ≤ q → A q := fun q h => by rw [← hAe]; exact Or.inr h
  have hS : va_S A s.heap s.heap [] := va_S.rf
  refine lv_aload_n hx hb dX5_fails_0 rfl (lv_at hl 0 rfl) ?_
  refine lv_iload_n hx hb dX5_fails_1 rfl (lv_at hl 1 rfl) ?_
  refine va_put (D := (dC, dI)) (ci := 5) (v := .int p0) (ty := .int) (C := RX5) (T := TX5) (N := 30) hx hb hta inA_X5 tyX5 tyX5_ok nmX5 hown hK hP hD hS 0 rfl rfl 24 (by decide) (hta _ aw_535) (fun _ h9 => h9) rfl (by decide +kernel) rfl rfl (Nat.le_of_ble_eq_true rfl) dX5_fails_2 (fun H locs hP hD hS => ?_)
  have hP : va_P (dC, dI) vwCl (MWl ga gk th L N mm f1 mr mh f8 en us eC eL eB eF eR eU eX f2 f3 f4 f5 f6 f7 f14 p0 fa mn lg cm wa) H := hP
  have hD : va_D A (MWl ga gk th L N mm f1 mr mh f8 en us eC eL eB eF eR eU eX f2 f3 f4 f5 f6 f7 f14 p0 fa mn lg cm wa) := hD
  refine lv_aload_n hx hb dX5_fails_5 rfl (lv_at hl 0 rfl) ?_
  refine lv_iload_n hx hb dX5_fails_6 rfl (lv_at hl 2 rfl) ?_
  refine va_put (D := (dC, dI)) (ci := 5) (v := .int p1) (ty := .int) (C := RX5) (T := TX5) (N := 30) hx hb hta inA_X5 tyX5 tyX5_ok nmX5 hown hK hP hD hS 0 rfl rfl 25 (by decide) (hta _ aw_536) (fun _ h9 => h9) rfl (by decide +kernel) rfl rfl (Nat.le_of_ble_eq_true rfl) dX5_fails_7 (fun H locs hP hD hS => ?_)
  have hP : va_P (dC, dI) vwCl (MWl ga gk th L N mm f1 mr mh f8 en us eC eL eB eF eR eU eX f2 f3 f4 f5 f6 f7 f14 p0 p1 mn lg cm wa) H := hP
  have hD : va_D A (MWl ga gk th L N mm f1 mr mh f8 en us eC eL eB eF eR eU eX f2 f3 f4 f5 f6 f7 f14 p0 p1 mn lg cm wa) := hD
  refine lv_iconst (v := 0) hx hb dX5_fails_10 (by decide) ?_
  exact W.zret (ty := .boolean) (v := (0 : Int32)) hx hb hr rfl (fun t ht hW => ⟨⟨(0 : Int32), (p0, p1), rfl, (by unfold mX5_fails; (first | done | rfl)), by rw [ht]; exact hP, va_K.moved hW.alike hK, hD⟩, hS.F ht⟩) hS.2.2 dX5_fails_11
/-- PageRowsModel.ends -/
def mX5_ends (L : Nat) (mh : Nat → Int32) (f8 : Int32) (ff : Int32) (fa : Int32) (cm : Int32) (p0 : Int32) (p1 : Int32) (p2 : Int32) : Int32 × Int32 × Int32 × Int32 :=
  if 0 ≤ (mX5_mapped mh f8 (p0 + (mX5_behind p2 p1))) then
    ((1 : Int32), ff, fa, ((256 : Int32) * (mX5_mapped mh f8 (p0 + (mX5_behind p2 p1)))) + (p2 &&& (255 : Int32)))
  else
    match mX5_fails (6 : Int32) (nI L) with
    | (r_4, ff_4, fa_4) =>
      (r_4, ff_4, fa_4, cm)
set_option maxHeartbeats 4000000 in
set_option maxRecDepth 100000 in
theorem c_X5_ends (l : Launch) (dC : Nat → ClassId) (dI : Nat → Nat → Nat) (ga : Nat → Nat) (gk : Nat → ClassId) (th : Int32) (L : Nat) (N : Nat) (mm : Nat → Int64) (f1 : Int32) (mr : Nat → Int32) (mh : Nat → Int32) (f8 : Int32) (en : Nat) (us : Nat) (eC : Nat → Int32) (eL : Nat → Int32) (eB : Nat → Int32) (eF : Nat → Int32) (eR : Nat → Int32) (eU : Nat → Int32) (eX : Nat → Int32) (f2 : Int32) (f3 : Int32) (f4 : Int32) (f5 : Int32) (f6 : Int32) (f7 : Int32) (f14 : Int32) (ff : Int32) (fa : Int32) (mn : Nat) (lg : Int32) (cm : Int32) (wa : Nat → Int32)  (sz : Nat) (p0 : Int32) (p1 : Int32) (p2 : Int32)  : Met l yX5_ends (wX5_ends :: AW) ({ frames := 2, cells := 0, slots := 0, locals := 42 }) (va_Pc [.ref (ga 0), .int p0, .int p1, .int p2] (CPrQ dC dI (MWl ga gk th L N mm f1 mr mh f8 en us eC eL eB eF eR eU eX f2 f3 f4 f5 f6 f7 f14 ff fa mn lg cm wa) [(gk 0, .long), (gk 1, .int), (gk 2, .int), (gk 3, .int), (gk 4, .int), (gk 5, .int), (gk 6, .int), (gk 7, .int), (gk 8, .int), (gk 9, .boolean), (gk 10, .int)] sz)) (va_Qi (fun (r : Int32) (u : Int32 × Int32 × Int32) => (r, u) = mX5_ends L mh f8 ff fa cm p0 p1 p2) (fun (u : Int32 × Int32 × Int32) (t : State) => match u with | (ff', fa', cm') => va_P (dC, dI) vwCl (MWl ga gk th L N mm f1 mr mh f8 en us eC eL eB eF eR eU eX f2 f3 f4 f5 f6 f7 f14 ff' fa' mn lg cm' wa) t.heap ∧ va_K (dC, dI) vwCl [(gk 0, .long), (gk 1, .int), (gk 2, .int), (gk 3, .int), (gk 4, .int), (gk 5, .int), (gk 6, .int), (gk 7, .int), (gk 8, .int), (gk 9, .boolean), (gk 10, .int)] t ∧ va_D (va_A (MWl ga gk th L N mm f1 mr mh f8 en us eC eL eB eF eR eU eX f2 f3 f4 f5 f6 f7 f14 ff fa mn lg cm wa) sz) (MWl ga gk th L N mm f1 mr mh f8 en us eC eL eB eF eR eU eX f2 f3 f4 f5 f6 f7 f14 ff' fa' mn lg cm' wa)) (va_A (MWl ga gk th L N mm f1 mr mh f8 en us eC eL eB eF eR eU eX f2 f3 f4 f5 f6 f7 f14 ff fa mn lg cm wa) sz)) 0 0 (va_A (MWl ga gk th L N mm f1 mr mh f8 en us eC eL eB eF eR eU eX f2 f3 f4 f5 f6 f7 f14 ff fa mn lg cm wa) sz) := by
  refine cx_of (cc := cX5_ends) (maxL := 5) (ret := some .boolean) (by decide) rfl (Nat.le_of_ble_eq_true rfl) ?_
  intro p e s m below meth c ls hx hb hr hts hown hlocks hml hnm hl hB
  have hta : ∀ w ∈ AW, w.before [.ref (ga 0), .int p0, .int p1, .int p2].toArray s = true := fun w h => hts w (List.mem_cons_of_mem _ h)
  have hl : lv_has ls 5 [(0, .ref (ga 0)), (1, .int p0), (2, .int p1), (3, .int p2)] := hl
  have hown : s.vm.findClass RX5 = some m.cls := hown
  obtain ⟨rfl, ⟨hP, hK, hN⟩, hD0⟩ := hB
  have hD := hD0.self (sz := s.heap.size)
  generalize hAe : va_A (MWl ga gk th L N mm f1 mr mh f8 en us eC eL eB eF eR eU eX f2 f3 f4 f5 f6 f7 f14 ff fa mn lg cm wa) s.heap.size = A at hD ⊢
  have hA : ∀ q : Nat, s.heap.size ≤ q → A q := fun q h => by rw [← hAe]; exact Or.inr h
  have hS : va_S A s.heap s.heap [] := va_S.rf
  refine lv_aload_n hx hb dX5_ends_0 rfl (lv_at hl 0 rfl) ?_
  refine lv_iload_n hx hb dX5_ends_1 rfl (lv_at hl 1 rfl) ?_
  refine lv_iload_n hx hb dX5_ends_2 rfl (lv_at hl 3 rfl) ?_
  refine lv_iload_n hx hb dX5_ends_3 rfl (lv_at hl 2 rfl) ?_
  refine cx_callSi (va_runS (As := [.int p2, .int p1]) (rest := [.int p0, .ref (ga 0)]) ⟨hx, hb, hml, hown, hta⟩ (c_X5_behind l p2 p1) (va_cwS 2 hta (gS aw_674 aw_675 aw_43 aw_676) rfl rfl rfl (by decide +kernel) ⟨Nat.le_of_ble_eq_true rfl, Nat.le_of_ble_eq_true rfl⟩) cx_pre0 rfl rfl hl.1 rfl (lv_room (Nat.le_of_ble_eq_true rfl)) dX5_ends_4 ⟨Nat.le_of_ble_eq_true rfl, Nat.le_of_ble_eq_true rfl⟩) (fun r hw_1 => ?_)
  subst hw_1
  refine lv_iadd hx hb dX5_ends_7 ?_
  refine cx_callSi (va_runV (As := [.int (p0 + (mX5_behind p2 p1))]) (rest := []) ⟨hx, hb, hml, hown, hta⟩ (c_X5_mapped l dC dI ga gk th L N mm f1 mr mh f8 en us eC eL eB eF eR eU eX f2 f3 f4 f5 f6 f7 f14 ff fa mn lg cm wa (p0 + (mX5_behind p2 p1))) (cwV 1 hta (gV aw_677 aw_679 aw_28 aw_43 aw_680) rfl rfl rfl (by decide +kernel) ⟨Nat.le_of_ble_eq_true rfl, Nat.le_of_ble_eq_true rfl⟩) (cx_preVS hK hP hN (va_recv hK hP (ci := 5) (q0 := 0) rfl rfl)) rfl rfl hl.1 rfl (lv_room (Nat.le_of_ble_eq_true rfl)) dX5_ends_8 ⟨Nat.le_of_ble_eq_true rfl, Nat.le_of_ble_eq_true rfl⟩) (fun r hw_2 => ?_)
  subst hw_2
  refine lv_istore (lv' := [(4, .int (mX5_mapped mh f8 (p0 + (mX5_behind p2 p1)))), (0, .ref (ga 0)), (1, .int p0), (2, .int p1), (3, .int p2)]) hx hb dX5_ends_11 hl (by decide) rfl (fun ls hl => ?_)
  refine lv_iload hx hb dX5_ends_13 (lv_at hl 0 rfl) ?_
  refine lv_if_ge (tgt := 29) hx hb dX5_ends_15 (by decide) (fun c_15_2 => ?_) (fun c_15_2 => ?_)
  · refine lv_aload_n hx hb dX5_ends_29 rfl (lv_at hl 1 rfl) ?_
    refine lv_sipush (v := 256) hx hb dX5_ends_30 (by decide) ?_
    refine lv_iload hx hb dX5_ends_33 (lv_at hl 0 rfl) ?_
    refine lv_imul hx hb dX5_ends_35 ?_
    refine lv_iload_n hx hb dX5_ends_36 rfl (lv_at hl 4 rfl) ?_
    refine lv_sipush (v := 255) hx hb dX5_ends_37 (by decide) ?_
    refine lv_iand hx hb dX5_ends_40 ?_
    refine lv_iadd hx hb dX5_ends_41 ?_
    refine va_put (D := (dC, dI)) (ci := 5) (v := .int (((256 : Int32) * (mX5_mapped mh f8 (p0 + (mX5_behind p2 p1)))) + (p2 &&& (255 : Int32)))) (ty := .int) (C := RX5) (T := TX5) (N := 30) hx hb hta inA_X5 tyX5 tyX5_ok nmX5 hown hK hP hD hS 0 rfl rfl 28 (by decide) (hta _ aw_539) (fun _ h9 => h9) rfl (by decide +kernel) rfl rfl (Nat.le_of_ble_eq_true rfl) dX5_ends_42 (fun H locs hP hD hS => ?_)
    have hP : va_P (dC, dI) vwCl (MWl ga gk th L N mm f1 mr mh f8 en us eC eL eB eF eR eU eX f2 f3 f4 f5 f6 f7 f14 ff fa mn lg (((256 : Int32) * (mX5_mapped mh f8 (p0 + (mX5_behind p2 p1)))) + (p2 &&& (255 : Int32))) wa) H := hP
    have hD : va_D A (MWl ga gk th L N mm f1 mr mh f8 en us eC eL eB eF eR eU eX f2 f3 f4 f5 f6 f7 f14 ff fa mn lg (((256 : Int32) * (mX5_mapped mh f8 (p0 + (mX5_behind p2 p1)))) + (p2 &&& (255 : Int32))) wa) := hD
    refine lv_iconst (v := 1) hx hb dX5_ends_45 (by decide) ?_
    exact W.zret (ty := .boolean) (v := (1 : Int32)) hx hb hr rfl (fun t ht hW => ⟨⟨(1 : Int32), (ff, fa, ((256 : Int32) * (mX5_mapped mh f8 (p0 + (mX5_behind p2 p1)))) + (p2 &&& (255 : Int32))), rfl, (by unfold mX5_ends; rewrite [if_pos c_15_2]; (first | done | rfl)), by rw [ht]; exact hP, va_K.moved hW.alike hK, hD⟩, hS.F ht⟩) hS.2.2 dX5_ends_46
  · refine lv_aload_n hx hb dX5_ends_18 rfl (lv_at hl 1 rfl) ?_
    refine lv_bipush (v := 6) hx hb dX5_ends_19 (by decide) ?_
    refine lv_aload_n hx hb dX5_ends_21 rfl (lv_at hl 1 rfl) ?_
    refine va_get (D := (dC, dI)) (ci := 5) (v := .int (nI L)) (C := RX5) (T := TX5) (N := 30) hx hb hta inA_X5 hown hK hP 0 rfl rfl 1 (by decide) (hta _ aw_512) (fun _ h9 => h9) rfl dX5_ends_22 ?_
    have hFc : ∀ q, va_A (MWl ga gk th L N mm f1 mr mh f8 en us eC eL eB eF eR eU eX f2 f3 f4 f5 f6 f7 f14 ff fa mn lg cm wa) s.heap.size q → A q := cx_free hD hS hA
    refine va_calli (va_runV (As := [.int (6 : Int32), .int (nI L)]) (rest := []) ⟨hx, hb, hml, hown, hta⟩ (c_X5_fails l dC dI ga gk th L N mm f1 mr mh f8 en us eC eL eB eF eR eU eX f2 f3 f4 f5 f6 f7 f14 ff fa mn lg cm wa s.heap.size (6 : Int32) (nI L)) (cwV 2 hta (gV aw_666 aw_668 aw_26 aw_43 aw_669) rfl rfl rfl (by decide +kernel) ⟨Nat.le_of_ble_eq_true rfl, Nat.le_of_ble_eq_true rfl⟩) (cx_preVQ hK hP hN (va_recv hK hP (ci := 5) (q0 := 0) rfl rfl) hD) rfl rfl hl.1 rfl (lv_room (Nat.le_of_ble_eq_true rfl)) dX5_ends_25 ⟨Nat.le_of_ble_eq_true rfl, Nat.le_of_ble_eq_true rfl⟩) hS (fun q _ h => hFc q h) hFc (fun r_4 u t9 H1 locs ht hvm hw_4 hB hz1 hk1 hS => ?_)
    obtain ⟨ff_4, fa_4⟩ := u
    obtain ⟨hP, hK1, hD1⟩ := hB
    rw [ht] at hP
    have hD := hD1.weaken (fun _ _ _ h => hFc _ h)
    clear hFc hz1 hk1 hK1 hD1 ht hvm
    generalize H1 = H at hP hS ⊢
    have hP : va_P (dC, dI) vwCl (MWl ga gk th L N mm f1 mr mh f8 en us eC eL eB eF eR eU eX f2 f3 f4 f5 f6 f7 f14 ff_4 fa_4 mn lg cm wa) H := hP
    have hD : va_D A (MWl ga gk th L N mm f1 mr mh f8 en us eC eL eB eF eR eU eX f2 f3 f4 f5 f6 f7 f14 ff_4 fa_4 mn lg cm wa) := hD
    have hzf : narrow .boolean (.int r_4) = .int r_4 := by have := hw_4; unfold mX5_fails at this; cases this; rfl
    exact W.zret (ty := .boolean) (v := r_4) hx hb hr hzf (fun t ht hW => ⟨⟨r_4, (ff_4, fa_4, cm), rfl, (by unfold mX5_ends; rewrite [if_neg c_15_2]; rewrite [← hw_4]; (try dsimp only); (first | done | rfl)), by rw [ht]; exact hP, va_K.moved hW.alike hK, hD⟩, hS.F ht⟩) hS.2.2 dX5_ends_28
