/-- PageRows.bitsBelow -/
def mX4_bitsBelow (p0 : Int32) : Int32 :=
  (8 : Int32) + ((4 : Int32) * p0)
set_option maxHeartbeats 4000000 in
set_option maxRecDepth 100000 in
theorem c_X4_bitsBelow (l : Launch) (p0 : Int32) : Met l yX4_bitsBelow (wX4_bitsBelow :: AW) ({ frames := 0, cells := 0, slots := 0, locals := 0 }) (va_Pc [.int p0] (fun _ => True)) (vp_Si (fun r => r = mX4_bitsBelow p0)) 0 0 (fun _ => False) := by
  refine cx_of (cc := cX4_bitsBelow) (maxL := 1) (ret := some .int) (by decide) rfl (Nat.le_of_ble_eq_true rfl) ?_
  intro p e s m below meth c ls hx hb hr hts hown hlocks hml hnm hl hB
  have hta : ∀ w ∈ AW, w.before [.int p0].toArray s = true := fun w h => hts w (List.mem_cons_of_mem _ h)
  have hl : lv_has ls 1 [(0, .int p0)] := hl
  have hown : s.vm.findClass RX4 = some m.cls := hown
  refine lv_bipush (v := 8) hx hb dX4_bitsBelow_0 (by decide) ?_
  refine lv_iconst (v := 4) hx hb dX4_bitsBelow_2 (by decide) ?_
  refine lv_iload_n hx hb dX4_bitsBelow_3 rfl (lv_at hl 0 rfl) ?_
  refine lv_imul hx hb dX4_bitsBelow_4 ?_
  refine lv_iadd hx hb dX4_bitsBelow_5 ?_
  exact W.iret (v := (8 : Int32) + ((4 : Int32) * p0)) hx hb hr (fun t ht hW => ⟨(8 : Int32) + ((4 : Int32) * p0), rfl, (by unfold mX4_bitsBelow; (first | done | rfl)), ht⟩) (fun q h => nomatch h) dX4_bitsBelow_6
/-- PageRows.frameOf -/
def mX4_frameOf (p0 : Int64) : Int32 :=
  ((jlushr p0 (8 : Int32)).toInt32) &&& (1048575 : Int32)
set_option maxHeartbeats 4000000 in
set_option maxRecDepth 100000 in
theorem c_X4_frameOf (l : Launch) (p0 : Int64) : Met l yX4_frameOf (wX4_frameOf :: AW) ({ frames := 0, cells := 0, slots := 0, locals := 0 }) (va_Pc [.long p0] (fun _ => True)) (vp_Si (fun r => r = mX4_frameOf p0)) 0 0 (fun _ => False) := by
  refine cx_of (cc := cX4_frameOf) (maxL := 2) (ret := some .int) (by decide) rfl (Nat.le_of_ble_eq_true rfl) ?_
  intro p e s m below meth c ls hx hb hr hts hown hlocks hml hnm hl hB
  have hta : ∀ w ∈ AW, w.before [.long p0].toArray s = true := fun w h => hts w (List.mem_cons_of_mem _ h)
  have hl : lv_has ls 2 [(0, .long p0)] := hl
  have hown : s.vm.findClass RX4 = some m.cls := hown
  refine lv_lload_n hx hb dX4_frameOf_0 rfl (lv_at hl 0 rfl) ?_
  refine lv_bipush (v := 8) hx hb dX4_frameOf_1 (by decide) ?_
  refine lv_lushr (v := jlushr p0 (8 : Int32)) hx hb dX4_frameOf_3 rfl ?_
  refine lv_l2i (v := (jlushr p0 (8 : Int32)).toInt32) hx hb dX4_frameOf_4 rfl ?_
  refine lv_ldc (v := 1048575) hx hb hown (hta _ aw_410) dX4_frameOf_5 ?_
  refine lv_iand hx hb dX4_frameOf_7 ?_
  exact W.iret (v := ((jlushr p0 (8 : Int32)).toInt32) &&& (1048575 : Int32)) hx hb hr (fun t ht hW => ⟨((jlushr p0 (8 : Int32)).toInt32) &&& (1048575 : Int32), rfl, (by unfold mX4_frameOf; (first | done | rfl)), ht⟩) (fun q h => nomatch h) dX4_frameOf_8
/-- PageRows.rightsOf -/
def mX4_rightsOf (p0 : Int64) : Int32 :=
  ((jlushr p0 (1 : Int32)).toInt32) &&& (15 : Int32)
set_option maxHeartbeats 4000000 in
set_option maxRecDepth 100000 in
theorem c_X4_rightsOf (l : Launch) (p0 : Int64) : Met l yX4_rightsOf (wX4_rightsOf :: AW) ({ frames := 0, cells := 0, slots := 0, locals := 0 }) (va_Pc [.long p0] (fun _ => True)) (vp_Si (fun r => r = mX4_rightsOf p0)) 0 0 (fun _ => False) := by
  refine cx_of (cc := cX4_rightsOf) (maxL := 2) (ret := some .int) (by decide) rfl (Nat.le_of_ble_eq_true rfl) ?_
  intro p e s m below meth c ls hx hb hr hts hown hlocks hml hnm hl hB
  have hta : ∀ w ∈ AW, w.before [.long p0].toArray s = true := fun w h => hts w (List.mem_cons_of_mem _ h)
  have hl : lv_has ls 2 [(0, .long p0)] := hl
  have hown : s.vm.findClass RX4 = some m.cls := hown
  refine lv_lload_n hx hb dX4_rightsOf_0 rfl (lv_at hl 0 rfl) ?_
  refine lv_iconst (v := 1) hx hb dX4_rightsOf_1 (by decide) ?_
  refine lv_lushr (v := jlushr p0 (1 : Int32)) hx hb dX4_rightsOf_2 rfl ?_
  refine lv_l2i (v := (jlushr p0 (1 : Int32)).toInt32) hx hb dX4_rightsOf_3 rfl ?_
  refine lv_bipush (v := 15) hx hb dX4_rightsOf_4 (by decide) ?_
  refine lv_iand hx hb dX4_rightsOf_6 ?_
  exact W.iret (v := ((jlushr p0 (1 : Int32)).toInt32) &&& (15 : Int32)) hx hb hr (fun t ht hW => ⟨((jlushr p0 (1 : Int32)).toInt32) &&& (15 : Int32), rfl, (by unfold mX4_rightsOf; (first | done | rfl)), ht⟩) (fun q h => nomatch h) dX4_rightsOf_7
/-- PageRows.isKind -/
def mX4_isKind (p0 : Int32) : Int32 :=
  if p0 < 0 then
    (0 : Int32)
  else
    if (6 : Int32) ≤ p0 then
      (0 : Int32)
    else
      (1 : Int32)
set_option maxHeartbeats 4000000 in
set_option maxRecDepth 100000 in
theorem c_X4_isKind (l : Launch) (p0 : Int32) : Met l yX4_isKind (wX4_isKind :: AW) ({ frames := 0, cells := 0, slots := 0, locals := 0 }) (va_Pc [.int p0] (fun _ => True)) (vp_Si (fun r => r = mX4_isKind p0)) 0 0 (fun _ => False) := by
  refine cx_of (cc := cX4_isKind) (maxL := 1) (ret := some .boolean) (by decide) rfl (Nat.le_of_ble_eq_true rfl) ?_
  intro p e s m below meth c ls hx hb hr hts hown hlocks hml hnm hl hB
  have hta : ∀ w ∈ AW, w.before [.int p0].toArray s = true := fun w h => hts w (List.mem_cons_of_mem _ h)
  have hl : lv_has ls 1 [(0, .int p0)] := hl
  have hown : s.vm.findClass RX4 = some m.cls := hown
  refine lv_iload_n hx hb dX4_isKind_0 rfl (lv_at hl 0 rfl) ?_
  refine lv_if_lt (tgt := 14) hx hb dX4_isKind_1 (by decide) (fun c_1_0 => ?_) (fun c_1_0 => ?_)
  · refine lv_iconst (v := 0) hx hb dX4_isKind_14 (by decide) ?_
    exact W.zret (ty := .boolean) (v := (0 : Int32)) hx hb hr rfl (fun t ht hW => ⟨(0 : Int32), rfl, (by unfold mX4_isKind; rewrite [if_pos c_1_0]; (first | done | rfl)), ht⟩) (fun q h => nomatch h) dX4_isKind_15
  · refine lv_iload_n hx hb dX4_isKind_4 rfl (lv_at hl 0 rfl) ?_
    refine lv_bipush (v := 6) hx hb dX4_isKind_5 (by decide) ?_
    refine lv_icmp_ge (tgt := 14) hx hb dX4_isKind_7 (by decide) (fun c_7_1 => ?_) (fun c_7_1 => ?_)
    · refine lv_iconst (v := 0) hx hb dX4_isKind_14 (by decide) ?_
      exact W.zret (ty := .boolean) (v := (0 : Int32)) hx hb hr rfl (fun t ht hW => ⟨(0 : Int32), rfl, (by unfold mX4_isKind; rewrite [if_neg c_1_0]; rewrite [if_pos c_7_1]; (first | done | rfl)), ht⟩) (fun q h => nomatch h) dX4_isKind_15
    · refine lv_iconst (v := 1) hx hb dX4_isKind_10 (by decide) ?_
      refine lv_goto (tgt := 15) hx hb dX4_isKind_11 (by decide) ?_
      exact W.zret (ty := .boolean) (v := (1 : Int32)) hx hb hr rfl (fun t ht hW => ⟨(1 : Int32), rfl, (by unfold mX4_isKind; rewrite [if_neg c_1_0]; rewrite [if_neg c_7_1]; (first | done | rfl)), ht⟩) (fun q h => nomatch h) dX4_isKind_15
theorem mX4_isKind_z (p0 : Int32) : narrow .boolean (.int (mX4_isKind p0)) = .int (mX4_isKind p0) := by
  unfold mX4_isKind
  repeat' split
  all_goals first | rfl | exact rfl
/-- PageRows.isWrite -/
def mX4_isWrite (p0 : Int32) : Int32 :=
  if (p0 - p0 / (3 : Int32) * (3 : Int32)) = (1 : Int32) then
    (1 : Int32)
  else
    (0 : Int32)
set_option maxHeartbeats 4000000 in
set_option maxRecDepth 100000 in
theorem c_X4_isWrite (l : Launch) (p0 : Int32) : Met l yX4_isWrite (wX4_isWrite :: AW) ({ frames := 0, cells := 0, slots := 0, locals := 0 }) (va_Pc [.int p0] (fun _ => True)) (vp_Si (fun r => r = mX4_isWrite p0)) 0 0 (fun _ => False) := by
  refine cx_of (cc := cX4_isWrite) (maxL := 1) (ret := some .boolean) (by decide) rfl (Nat.le_of_ble_eq_true rfl) ?_
  intro p e s m below meth c ls hx hb hr hts hown hlocks hml hnm hl hB
  have hta : ∀ w ∈ AW, w.before [.int p0].toArray s = true := fun w h => hts w (List.mem_cons_of_mem _ h)
  have hl : lv_has ls 1 [(0, .int p0)] := hl
  have hown : s.vm.findClass RX4 = some m.cls := hown
  refine lv_iload_n hx hb dX4_isWrite_0 rfl (lv_at hl 0 rfl) ?_
  refine lv_iconst (v := 3) hx hb dX4_isWrite_1 (by decide) ?_
  refine lv_irem hx hb dX4_isWrite_2 (by decide) ?_
  refine lv_iconst (v := 1) hx hb dX4_isWrite_3 (by decide) ?_
  refine lv_icmp_ne (tgt := 11) hx hb dX4_isWrite_4 (by decide) (fun c_4_0 => ?_) (fun c_4_0 => ?_)
  · refine lv_iconst (v := 0) hx hb dX4_isWrite_11 (by decide) ?_
    exact W.zret (ty := .boolean) (v := (0 : Int32)) hx hb hr rfl (fun t ht hW => ⟨(0 : Int32), rfl, (by unfold mX4_isWrite; rewrite [if_neg c_4_0]; (first | done | rfl)), ht⟩) (fun q h => nomatch h) dX4_isWrite_12
  · refine lv_iconst (v := 1) hx hb dX4_isWrite_7 (by decide) ?_
    refine lv_goto (tgt := 12) hx hb dX4_isWrite_8 (by decide) ?_
    exact W.zret (ty := .boolean) (v := (1 : Int32)) hx hb hr rfl (fun t ht hW => ⟨(1 : Int32), rfl, (by unfold mX4_isWrite; rewrite [if_pos c_4_0]; (first | done | rfl)), ht⟩) (fun q h => nomatch h) dX4_isWrite_12
theorem mX4_isWrite_z (p0 : Int32) : narrow .boolean (.int (mX4_isWrite p0)) = .int (mX4_isWrite p0) := by
  unfold mX4_isWrite
  repeat' split
  all_goals first | rfl | exact rfl
/-- PageRows.allows -/
def mX4_allows (p0 : Int32) (p1 : Int32) : Int32 :=
  if ((p0 >>> ((p1 - p1 / (3 : Int32) * (3 : Int32)) &&& 31)) &&& (1 : Int32)) = 0 then
    if p1 < (3 : Int32) then
      (0 : Int32)
    else
      if (p0 &&& (8 : Int32)) = 0 then
        (0 : Int32)
      else
        (0 : Int32)
  else
    if p1 < (3 : Int32) then
      (1 : Int32)
    else
      if (p0 &&& (8 : Int32)) = 0 then
        (0 : Int32)
      else
        (1 : Int32)
set_option maxHeartbeats 4000000 in
set_option maxRecDepth 100000 in
theorem c_X4_allows (l : Launch) (p0 : Int32) (p1 : Int32) : Met l yX4_allows (wX4_allows :: AW) ({ frames := 0, cells := 0, slots := 0, locals := 0 }) (va_Pc [.int p0, .int p1] (fun _ => True)) (vp_Si (fun r => r = mX4_allows p0 p1)) 0 0 (fun _ => False) := by
  refine cx_of (cc := cX4_allows) (maxL := 4) (ret := some .boolean) (by decide) rfl (Nat.le_of_ble_eq_true rfl) ?_
  intro p e s m below meth c ls hx hb hr hts hown hlocks hml hnm hl hB
  have hta : ∀ w ∈ AW, w.before [.int p0, .int p1].toArray s = true := fun w h => hts w (List.mem_cons_of_mem _ h)
  have hl : lv_has ls 4 [(0, .int p0), (1, .int p1)] := hl
  have hown : s.vm.findClass RX4 = some m.cls := hown
  refine lv_iload_n hx hb dX4_allows_0 rfl (lv_at hl 0 rfl) ?_
  refine lv_iload_n hx hb dX4_allows_1 rfl (lv_at hl 1 rfl) ?_
  refine lv_iconst (v := 3) hx hb dX4_allows_2 (by decide) ?_
  refine lv_irem hx hb dX4_allows_3 (by decide) ?_
  refine lv_ishr hx hb dX4_allows_4 ?_
  refine lv_iconst (v := 1) hx hb dX4_allows_5 (by decide) ?_
  refine lv_iand hx hb dX4_allows_6 ?_
  refine lv_if_eq (tgt := 14) hx hb dX4_allows_7 (by decide) (fun c_7_0 => ?_) (fun c_7_0 => ?_)
  · refine lv_iconst (v := 0) hx hb dX4_allows_14 (by decide) ?_
    refine lv_istore_n (lv' := [(2, .int (0 : Int32)), (0, .int p0), (1, .int p1)]) hx hb dX4_allows_15 rfl hl (by decide) rfl (fun ls hl => ?_)
    refine lv_iload_n hx hb dX4_allows_16 rfl (lv_at hl 2 rfl) ?_
    refine lv_iconst (v := 3) hx hb dX4_allows_17 (by decide) ?_
    refine lv_icmp_lt (tgt := 28) hx hb dX4_allows_18 (by decide) (fun c_18_1 => ?_) (fun c_18_1 => ?_)
    · refine lv_iconst (v := 1) hx hb dX4_allows_28 (by decide) ?_
      refine lv_goto (tgt := 33) hx hb dX4_allows_29 (by decide) ?_
      refine lv_istore_n (lv' := [(3, .int (1 : Int32)), (2, .int (0 : Int32)), (0, .int p0), (1, .int p1)]) hx hb dX4_allows_33 rfl hl (by decide) rfl (fun ls hl => ?_)
      refine lv_iload_n hx hb dX4_allows_34 rfl (lv_at hl 1 rfl) ?_
      refine lv_if_eq (tgt := 46) hx hb dX4_allows_35 (by decide) (fun c_35_2 => ?_) (fun c_35_2 => ?_)
      · refine lv_iconst (v := 0) hx hb dX4_allows_46 (by decide) ?_
        exact W.zret (ty := .boolean) (v := (0 : Int32)) hx hb hr rfl (fun t ht hW => ⟨(0 : Int32), rfl, (by unfold mX4_allows; rewrite [if_pos c_7_0]; rewrite [if_pos c_18_1]; (first | done | rfl)), ht⟩) (fun q h => nomatch h) dX4_allows_47
      · exact absurd (by decide) c_35_2
    · refine lv_iload_n hx hb dX4_allows_21 rfl (lv_at hl 1 rfl) ?_
      refine lv_bipush (v := 8) hx hb dX4_allows_22 (by decide) ?_
      refine lv_iand hx hb dX4_allows_24 ?_
      refine lv_if_eq (tgt := 32) hx hb dX4_allows_25 (by decide) (fun c_25_3 => ?_) (fun c_25_3 => ?_)
      · refine lv_iconst (v := 0) hx hb dX4_allows_32 (by decide) ?_
        refine lv_istore_n (lv' := [(3, .int (0 : Int32)), (2, .int (0 : Int32)), (0, .int p0), (1, .int p1)]) hx hb dX4_allows_33 rfl hl (by decide) rfl (fun ls hl => ?_)
        refine lv_iload_n hx hb dX4_allows_34 rfl (lv_at hl 1 rfl) ?_
        refine lv_if_eq (tgt := 46) hx hb dX4_allows_35 (by decide) (fun c_35_4 => ?_) (fun c_35_4 => ?_)
        · refine lv_iconst (v := 0) hx hb dX4_allows_46 (by decide) ?_
          exact W.zret (ty := .boolean) (v := (0 : Int32)) hx hb hr rfl (fun t ht hW => ⟨(0 : Int32), rfl, (by unfold mX4_allows; rewrite [if_pos c_7_0]; rewrite [if_neg c_18_1]; rewrite [if_pos c_25_3]; (first | done | rfl)), ht⟩) (fun q h => nomatch h) dX4_allows_47
        · exact absurd (by decide) c_35_4
      · refine lv_iconst (v := 1) hx hb dX4_allows_28 (by decide) ?_
        refine lv_goto (tgt := 33) hx hb dX4_allows_29 (by decide) ?_
        refine lv_istore_n (lv' := [(3, .int (1 : Int32)), (2, .int (0 : Int32)), (0, .int p0), (1, .int p1)]) hx hb dX4_allows_33 rfl hl (by decide) rfl (fun ls hl => ?_)
        refine lv_iload_n hx hb dX4_allows_34 rfl (lv_at hl 1 rfl) ?_
        refine lv_if_eq (tgt := 46) hx hb dX4_allows_35 (by decide) (fun c_35_5 => ?_) (fun c_35_5 => ?_)
        · refine lv_iconst (v := 0) hx hb dX4_allows_46 (by decide) ?_
          exact W.zret (ty := .boolean) (v := (0 : Int32)) hx hb hr rfl (fun t ht hW => ⟨(0 : Int32), rfl, (by unfold mX4_allows; rewrite [if_pos c_7_0]; rewrite [if_neg c_18_1]; rewrite [if_neg c_25_3]; (first | done | rfl)), ht⟩) (fun q h => nomatch h) dX4_allows_47
        · exact absurd (by decide) c_35_5
  · refine lv_iconst (v := 1) hx hb dX4_allows_10 (by decide) ?_
    refine lv_goto (tgt := 15) hx hb dX4_allows_11 (by decide) ?_
    refine lv_istore_n (lv' := [(2, .int (1 : Int32)), (0, .int p0), (1, .int p1)]) hx hb dX4_allows_15 rfl hl (by decide) rfl (fun ls hl => ?_)
    refine lv_iload_n hx hb dX4_allows_16 rfl (lv_at hl 2 rfl) ?_
    refine lv_iconst (v := 3) hx hb dX4_allows_17 (by decide) ?_
    refine lv_icmp_lt (tgt := 28) hx hb dX4_allows_18 (by decide) (fun c_18_6 => ?_) (fun c_18_6 => ?_)
    · refine lv_iconst (v := 1) hx hb dX4_allows_28 (by decide) ?_
      refine lv_goto (tgt := 33) hx hb dX4_allows_29 (by decide) ?_
      refine lv_istore_n (lv' := [(3, .int (1 : Int32)), (2, .int (1 : Int32)), (0, .int p0), (1, .int p1)]) hx hb dX4_allows_33 rfl hl (by decide) rfl (fun ls hl => ?_)
      refine lv_iload_n hx hb dX4_allows_34 rfl (lv_at hl 1 rfl) ?_
      refine lv_if_eq (tgt := 46) hx hb dX4_allows_35 (by decide) (fun c_35_7 => ?_) (fun c_35_7 => ?_)
      · exact absurd c_35_7 (by decide)
      · refine lv_iload_n hx hb dX4_allows_38 rfl (lv_at hl 0 rfl) ?_
        refine lv_if_eq (tgt := 46) hx hb dX4_allows_39 (by decide) (fun c_39_8 => ?_) (fun c_39_8 => ?_)
        · exact absurd c_39_8 (by decide)
        · refine lv_iconst (v := 1) hx hb dX4_allows_42 (by decide) ?_
          refine lv_goto (tgt := 47) hx hb dX4_allows_43 (by decide) ?_
          exact W.zret (ty := .boolean) (v := (1 : Int32)) hx hb hr rfl (fun t ht hW => ⟨(1 : Int32), rfl, (by unfold mX4_allows; rewrite [if_neg c_7_0]; rewrite [if_pos c_18_6]; (first | done | rfl)), ht⟩) (fun q h => nomatch h) dX4_allows_47
    · refine lv_iload_n hx hb dX4_allows_21 rfl (lv_at hl 1 rfl) ?_
      refine lv_bipush (v := 8) hx hb dX4_allows_22 (by decide) ?_
      refine lv_iand hx hb dX4_allows_24 ?_
      refine lv_if_eq (tgt := 32) hx hb dX4_allows_25 (by decide) (fun c_25_9 => ?_) (fun c_25_9 => ?_)
      · refine lv_iconst (v := 0) hx hb dX4_allows_32 (by decide) ?_
        refine lv_istore_n (lv' := [(3, .int (0 : Int32)), (2, .int (1 : Int32)), (0, .int p0), (1, .int p1)]) hx hb dX4_allows_33 rfl hl (by decide) rfl (fun ls hl => ?_)
        refine lv_iload_n hx hb dX4_allows_34 rfl (lv_at hl 1 rfl) ?_
        refine lv_if_eq (tgt := 46) hx hb dX4_allows_35 (by decide) (fun c_35_10 => ?_) (fun c_35_10 => ?_)
        · exact absurd c_35_10 (by decide)
        · refine lv_iload_n hx hb dX4_allows_38 rfl (lv_at hl 0 rfl) ?_
          refine lv_if_eq (tgt := 46) hx hb dX4_allows_39 (by decide) (fun c_39_11 => ?_) (fun c_39_11 => ?_)
          · refine lv_iconst (v := 0) hx hb dX4_allows_46 (by decide) ?_
            exact W.zret (ty := .boolean) (v := (0 : Int32)) hx hb hr rfl (fun t ht hW => ⟨(0 : Int32), rfl, (by unfold mX4_allows; rewrite [if_neg c_7_0]; rewrite [if_neg c_18_6]; rewrite [if_pos c_25_9]; (first | done | rfl)), ht⟩) (fun q h => nomatch h) dX4_allows_47
          · exact absurd (by decide) c_39_11
      · refine lv_iconst (v := 1) hx hb dX4_allows_28 (by decide) ?_
        refine lv_goto (tgt := 33) hx hb dX4_allows_29 (by decide) ?_
        refine lv_istore_n (lv' := [(3, .int (1 : Int32)), (2, .int (1 : Int32)), (0, .int p0), (1, .int p1)]) hx hb dX4_allows_33 rfl hl (by decide) rfl (fun ls hl => ?_)
        refine lv_iload_n hx hb dX4_allows_34 rfl (lv_at hl 1 rfl) ?_
        refine lv_if_eq (tgt := 46) hx hb dX4_allows_35 (by decide) (fun c_35_12 => ?_) (fun c_35_12 => ?_)
        · exact absurd c_35_12 (by decide)
        · refine lv_iload_n hx hb dX4_allows_38 rfl (lv_at hl 0 rfl) ?_
          refine lv_if_eq (tgt := 46) hx hb dX4_allows_39 (by decide) (fun c_39_13 => ?_) (fun c_39_13 => ?_)
          · exact absurd c_39_13 (by decide)
          · refine lv_iconst (v := 1) hx hb dX4_allows_42 (by decide) ?_
            refine lv_goto (tgt := 47) hx hb dX4_allows_43 (by decide) ?_
            exact W.zret (ty := .boolean) (v := (1 : Int32)) hx hb hr rfl (fun t ht hW => ⟨(1 : Int32), rfl, (by unfold mX4_allows; rewrite [if_neg c_7_0]; rewrite [if_neg c_18_6]; rewrite [if_neg c_25_9]; (first | done | rfl)), ht⟩) (fun q h => nomatch h) dX4_allows_47
theorem mX4_allows_z (p0 : Int32) (p1 : Int32) : narrow .boolean (.int (mX4_allows p0 p1)) = .int (mX4_allows p0 p1) := by
  unfold mX4_allows
  repeat' split
  all_goals first | rfl | exact rfl
