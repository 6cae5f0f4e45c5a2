/-- PageRows$Memory.homeOf -/
def mX2_homeOf (f8 : Int32) (ho : Nat → Int32) (p0 : Int32) : Int32 :=
  if f8 = 0 then
    p0
  else
    if p0 < 0 then
      (-1 : Int32)
    else
      if (256 : Int32) ≤ p0 then
        (-1 : Int32)
      else
        ho p0.toNatClampNeg
set_option maxHeartbeats 4000000 in
set_option maxRecDepth 100000 in
theorem c_X2_homeOf (l : Launch) (dC : Nat → ClassId) (dI : Nat → Nat → Nat) (a : Nat → Nat) (k : Nat → ClassId) (LP : List Nat) (N : Nat) (L : Nat) (f1 f2 f3 f4 f5 f6 f7 f8 : Int32) (rd : Nat) (f10 f11 f12 : Int32) (n : Nat) (f14 : Int32) (lf : Int64) (wd : Nat → Int64) (ho ro pa : Nat → Int32) (rs : Nat → Option Nat) (E : Nat → Nat → Int32)  (p0 : Int32)  : Met l yX2_homeOf (wX2_homeOf :: AW) ({ frames := 0, cells := 0, slots := 0, locals := 0 }) (va_Pc [.ref (a 1), .int p0] (CPre dC dI (CWl a k LP N L f1 f2 f3 f4 f5 f6 f7 f8 rd f10 f11 f12 n f14 lf wd ho ro pa rs E) [(k 0, .long), (k 1, .int), (k 2, .int), (k 3, .object "PageRows$Entry"), (k 4, .int)])) (vp_Si (fun r => r = mX2_homeOf f8 ho p0)) 0 0 (fun _ => False) := by
  refine cx_of (cc := cX2_homeOf) (maxL := 2) (ret := some .int) (by decide) rfl (Nat.le_of_ble_eq_true rfl) ?_
  intro p e s m below meth c ls hx hb hr hts hown hlocks hml hnm hl hB
  have hta : ∀ w ∈ AW, w.before [.ref (a 1), .int p0].toArray s = true := fun w h => hts w (List.mem_cons_of_mem _ h)
  have hl : lv_has ls 2 [(0, .ref (a 1)), (1, .int p0)] := hl
  have hown : s.vm.findClass RX2 = some m.cls := hown
  obtain ⟨hP, hK, hN⟩ := hB
  refine lv_aload_n hx hb dX2_homeOf_0 rfl (lv_at hl 0 rfl) ?_
  refine va_get (D := (dC, dI)) (ci := 2) (v := .int f8) (C := RX2) (T := TX2) (N := 3) hx hb hta inA_X2 hown hK hP 1 rfl rfl 2 (by decide) (hta _ aw_68) (fun _ h9 => h9) rfl dX2_homeOf_1 ?_
  refine lv_if_ne (tgt := 9) hx hb dX2_homeOf_4 (by decide) (fun c_4_0 => ?_) (fun c_4_0 => ?_)
  · refine lv_iload_n hx hb dX2_homeOf_9 rfl (lv_at hl 1 rfl) ?_
    refine lv_if_lt (tgt := 29) hx hb dX2_homeOf_10 (by decide) (fun c_10_1 => ?_) (fun c_10_1 => ?_)
    · refine lv_iconst (v := (-1)) hx hb dX2_homeOf_29 (by decide) ?_
      exact W.iret (v := (-1 : Int32)) hx hb hr (fun t ht hW => ⟨(-1 : Int32), rfl, (by unfold mX2_homeOf; rewrite [if_neg c_4_0]; rewrite [if_pos c_10_1]; (first | done | rfl)), ht⟩) (fun q h => nomatch h) dX2_homeOf_30
    · refine lv_iload_n hx hb dX2_homeOf_13 rfl (lv_at hl 1 rfl) ?_
      refine lv_sipush (v := 256) hx hb dX2_homeOf_14 (by decide) ?_
      refine lv_icmp_ge (tgt := 29) hx hb dX2_homeOf_17 (by decide) (fun c_17_2 => ?_) (fun c_17_2 => ?_)
      · refine lv_iconst (v := (-1)) hx hb dX2_homeOf_29 (by decide) ?_
        exact W.iret (v := (-1 : Int32)) hx hb hr (fun t ht hW => ⟨(-1 : Int32), rfl, (by unfold mX2_homeOf; rewrite [if_neg c_4_0]; rewrite [if_neg c_10_1]; rewrite [if_pos c_17_2]; (first | done | rfl)), ht⟩) (fun q h => nomatch h) dX2_homeOf_30
      · refine lv_aload_n hx hb dX2_homeOf_20 rfl (lv_at hl 0 rfl) ?_
        refine va_get (D := (dC, dI)) (ci := 2) (v := .ref (a 3)) (C := RX2) (T := TX2) (N := 3) hx hb hta inA_X2 hown hK hP 1 rfl rfl 1 (by decide) (hta _ aw_66) (fun _ h9 => h9) rfl dX2_homeOf_21 ?_
        refine lv_iload_n hx hb dX2_homeOf_24 rfl (lv_at hl 1 rfl) ?_
        refine va_iald hx hb hK hP 3 1 rfl rfl (cx_in c_10_1 c_17_2 rfl) dX2_homeOf_25 ?_
        refine lv_goto (tgt := 30) hx hb dX2_homeOf_26 (by decide) ?_
        exact W.iret (v := ho p0.toNatClampNeg) hx hb hr (fun t ht hW => ⟨ho p0.toNatClampNeg, rfl, (by unfold mX2_homeOf; rewrite [if_neg c_4_0]; rewrite [if_neg c_10_1]; rewrite [if_neg c_17_2]; (first | done | rfl)), ht⟩) (fun q h => nomatch h) dX2_homeOf_30
  · refine lv_iload_n hx hb dX2_homeOf_7 rfl (lv_at hl 1 rfl) ?_
    exact W.iret (v := p0) hx hb hr (fun t ht hW => ⟨p0, rfl, (by unfold mX2_homeOf; rewrite [if_pos c_4_0]; (first | done | rfl)), ht⟩) (fun q h => nomatch h) dX2_homeOf_8
/-- PageRows$Memory.reach -/
def mX2_reach (f8 : Int32) (ho : Nat → Int32) (p0 : Int32) (p1 : Int32) (p2 : Int32) : Int32 :=
  if (mX2_homeOf f8 ho (p0 + ((p2 &&& (((1 : Int32) <<< ((mX4_bitsBelow p1) &&& 31)) - (1 : Int32))) >>> ((8 : Int32) &&& 31)))) = (-1 : Int32) then
    (-1 : Int32)
  else
    ((mX2_homeOf f8 ho (p0 + ((p2 &&& (((1 : Int32) <<< ((mX4_bitsBelow p1) &&& 31)) - (1 : Int32))) >>> ((8 : Int32) &&& 31)))) <<< ((8 : Int32) &&& 31)) + (p2 &&& (255 : Int32))
set_option maxHeartbeats 4000000 in
set_option maxRecDepth 100000 in
theorem c_X2_reach (l : Launch) (dC : Nat → ClassId) (dI : Nat → Nat → Nat) (a : Nat → Nat) (k : Nat → ClassId) (LP : List Nat) (N : Nat) (L : Nat) (f1 f2 f3 f4 f5 f6 f7 f8 : Int32) (rd : Nat) (f10 f11 f12 : Int32) (n : Nat) (f14 : Int32) (lf : Int64) (wd : Nat → Int64) (ho ro pa : Nat → Int32) (rs : Nat → Option Nat) (E : Nat → Nat → Int32)  (p0 : Int32) (p1 : Int32) (p2 : Int32)  : Met l yX2_reach (wX2_reach :: AW) ({ frames := 1, cells := 0, slots := 0, locals := 21 }) (va_Pc [.ref (a 1), .int p0, .int p1, .int p2] (CPre dC dI (CWl a k LP N L f1 f2 f3 f4 f5 f6 f7 f8 rd f10 f11 f12 n f14 lf wd ho ro pa rs E) [(k 0, .long), (k 1, .int), (k 2, .int), (k 3, .object "PageRows$Entry"), (k 4, .int)])) (vp_Si (fun r => r = mX2_reach f8 ho p0 p1 p2)) 0 0 (fun _ => False) := by
  refine cx_of (cc := cX2_reach) (maxL := 6) (ret := some .int) (by decide) rfl (Nat.le_of_ble_eq_true rfl) ?_
  intro p e s m below meth c ls hx hb hr hts hown hlocks hml hnm hl hB
  have hta : ∀ w ∈ AW, w.before [.ref (a 1), .int p0, .int p1, .int p2].toArray s = true := fun w h => hts w (List.mem_cons_of_mem _ h)
  have hl : lv_has ls 6 [(0, .ref (a 1)), (1, .int p0), (2, .int p1), (3, .int p2)] := hl
  have hown : s.vm.findClass RX2 = some m.cls := hown
  obtain ⟨hP, hK, hN⟩ := hB
  refine lv_iload_n hx hb dX2_reach_0 rfl (lv_at hl 3 rfl) ?_
  refine lv_iconst (v := 1) hx hb dX2_reach_1 (by decide) ?_
  refine lv_iload_n hx hb dX2_reach_2 rfl (lv_at hl 2 rfl) ?_
  refine cx_callSi (va_runSN (As := [.int p1]) (rest := [.int (1 : Int32), .int p2]) ⟨hx, hb, hml, hown, hta⟩ (c_X4_bitsBelow l p1) ⟨va_cnB 1 hta (gC aw_372) rfl rfl rfl (hN.nm 14 rfl) (hta _ aw_38) (by decide +kernel) ⟨Nat.le_of_ble_eq_true rfl, Nat.le_of_ble_eq_true rfl⟩, (hta _ aw_371), trivial⟩ cx_pre0 rfl rfl hl.1 rfl (lv_room (Nat.le_of_ble_eq_true rfl)) dX2_reach_3 ⟨Nat.le_of_ble_eq_true rfl, Nat.le_of_ble_eq_true rfl⟩) (fun r hw_1 => ?_)
  subst hw_1
  refine lv_ishl hx hb dX2_reach_6 ?_
  refine lv_iconst (v := 1) hx hb dX2_reach_7 (by decide) ?_
  refine lv_isub hx hb dX2_reach_8 ?_
  refine lv_iand hx hb dX2_reach_9 ?_
  refine lv_bipush (v := 8) hx hb dX2_reach_10 (by decide) ?_
  refine lv_ishr hx hb dX2_reach_12 ?_
  refine lv_istore (lv' := [(4, .int ((p2 &&& (((1 : Int32) <<< ((mX4_bitsBelow p1) &&& 31)) - (1 : Int32))) >>> ((8 : Int32) &&& 31))), (0, .ref (a 1)), (1, .int p0), (2, .int p1), (3, .int p2)]) hx hb dX2_reach_13 hl (by decide) rfl (fun ls hl => ?_)
  refine lv_aload_n hx hb dX2_reach_15 rfl (lv_at hl 1 rfl) ?_
  refine lv_iload_n hx hb dX2_reach_16 rfl (lv_at hl 2 rfl) ?_
  refine lv_iload hx hb dX2_reach_17 (lv_at hl 0 rfl) ?_
  refine lv_iadd hx hb dX2_reach_19 ?_
  refine cx_callSi (va_runV (As := [.int (p0 + ((p2 &&& (((1 : Int32) <<< ((mX4_bitsBelow p1) &&& 31)) - (1 : Int32))) >>> ((8 : Int32) &&& 31)))]) (rest := []) ⟨hx, hb, hml, hown, hta⟩ (c_X2_homeOf l dC dI a k LP N L f1 f2 f3 f4 f5 f6 f7 f8 rd f10 f11 f12 n f14 lf wd ho ro pa rs E (p0 + ((p2 &&& (((1 : Int32) <<< ((mX4_bitsBelow p1) &&& 31)) - (1 : Int32))) >>> ((8 : Int32) &&& 31)))) (cwV 1 hta (gV aw_425 aw_405 aw_8 aw_39 aw_406) rfl rfl rfl (by decide +kernel) ⟨Nat.le_of_ble_eq_true rfl, Nat.le_of_ble_eq_true rfl⟩) (cx_preVS hK hP hN (va_recv hK hP (ci := 2) (q0 := 1) rfl rfl)) rfl rfl hl.1 rfl (lv_room (Nat.le_of_ble_eq_true rfl)) dX2_reach_20 ⟨Nat.le_of_ble_eq_true rfl, Nat.le_of_ble_eq_true rfl⟩) (fun r hw_2 => ?_)
  subst hw_2
  refine lv_istore (lv' := [(5, .int (mX2_homeOf f8 ho (p0 + ((p2 &&& (((1 : Int32) <<< ((mX4_bitsBelow p1) &&& 31)) - (1 : Int32))) >>> ((8 : Int32) &&& 31))))), (4, .int ((p2 &&& (((1 : Int32) <<< ((mX4_bitsBelow p1) &&& 31)) - (1 : Int32))) >>> ((8 : Int32) &&& 31))), (0, .ref (a 1)), (1, .int p0), (2, .int p1), (3, .int p2)]) hx hb dX2_reach_23 hl (by decide) rfl (fun ls hl => ?_)
  refine lv_iload hx hb dX2_reach_25 (lv_at hl 0 rfl) ?_
  refine lv_iconst (v := (-1)) hx hb dX2_reach_27 (by decide) ?_
  refine lv_icmp_ne (tgt := 35) hx hb dX2_reach_28 (by decide) (fun c_28_2 => ?_) (fun c_28_2 => ?_)
  · refine lv_iload hx hb dX2_reach_35 (lv_at hl 0 rfl) ?_
    refine lv_bipush (v := 8) hx hb dX2_reach_37 (by decide) ?_
    refine lv_ishl hx hb dX2_reach_39 ?_
    refine lv_iload_n hx hb dX2_reach_40 rfl (lv_at hl 5 rfl) ?_
    refine lv_sipush (v := 255) hx hb dX2_reach_41 (by decide) ?_
    refine lv_iand hx hb dX2_reach_44 ?_
    refine lv_iadd hx hb dX2_reach_45 ?_
    exact W.iret (v := ((mX2_homeOf f8 ho (p0 + ((p2 &&& (((1 : Int32) <<< ((mX4_bitsBelow p1) &&& 31)) - (1 : Int32))) >>> ((8 : Int32) &&& 31)))) <<< ((8 : Int32) &&& 31)) + (p2 &&& (255 : Int32))) hx hb hr (fun t ht hW => ⟨((mX2_homeOf f8 ho (p0 + ((p2 &&& (((1 : Int32) <<< ((mX4_bitsBelow p1) &&& 31)) - (1 : Int32))) >>> ((8 : Int32) &&& 31)))) <<< ((8 : Int32) &&& 31)) + (p2 &&& (255 : Int32)), rfl, (by unfold mX2_reach; rewrite [if_neg c_28_2]; (first | done | rfl)), ht⟩) (fun q h => nomatch h) dX2_reach_46
  · refine lv_iconst (v := (-1)) hx hb dX2_reach_31 (by decide) ?_
    refine lv_goto (tgt := 46) hx hb dX2_reach_32 (by decide) ?_
    exact W.iret (v := (-1 : Int32)) hx hb hr (fun t ht hW => ⟨(-1 : Int32), rfl, (by unfold mX2_reach; rewrite [if_pos c_28_2]; (first | done | rfl)), ht⟩) (fun q h => nomatch h) dX2_reach_46
/-- PageRows$Path.isOutside -/
def mX3_isOutside (L : Nat) (p0 : Int32) : Int32 :=
  if p0 < 0 then
    (1 : Int32)
  else
    if p0 < ((1 : Int32) <<< ((mX4_bitsBelow (nI L)) &&& 31)) then
      (0 : Int32)
    else
      (1 : Int32)
set_option maxHeartbeats 4000000 in
set_option maxRecDepth 100000 in
theorem c_X3_isOutside (l : Launch) (dC : Nat → ClassId) (dI : Nat → Nat → Nat) (a : Nat → Nat) (k : Nat → ClassId) (LP : List Nat) (N : Nat) (L : Nat) (f1 f2 f3 f4 f5 f6 f7 f8 : Int32) (rd : Nat) (f10 f11 f12 : Int32) (n : Nat) (f14 : Int32) (lf : Int64) (wd : Nat → Int64) (ho ro pa : Nat → Int32) (rs : Nat → Option Nat) (E : Nat → Nat → Int32)  (p0 : Int32)  : Met l yX3_isOutside (wX3_isOutside :: AW) ({ frames := 1, cells := 0, slots := 0, locals := 20 }) (va_Pc [.ref (a 4), .int p0] (CPre dC dI (CWl a k LP N L f1 f2 f3 f4 f5 f6 f7 f8 rd f10 f11 f12 n f14 lf wd ho ro pa rs E) [(k 0, .long), (k 1, .int), (k 2, .int), (k 3, .object "PageRows$Entry"), (k 4, .int)])) (vp_Si (fun r => r = mX3_isOutside L p0)) 0 0 (fun _ => False) := by
  refine cx_of (cc := cX3_isOutside) (maxL := 2) (ret := some .boolean) (by decide) rfl (Nat.le_of_ble_eq_true rfl) ?_
  intro p e s m below meth c ls hx hb hr hts hown hlocks hml hnm hl hB
  have hta : ∀ w ∈ AW, w.before [.ref (a 4), .int p0].toArray s = true := fun w h => hts w (List.mem_cons_of_mem _ h)
  have hl : lv_has ls 2 [(0, .ref (a 4)), (1, .int p0)] := hl
  have hown : s.vm.findClass RX3 = some m.cls := hown
  obtain ⟨hP, hK, hN⟩ := hB
  refine lv_iload_n hx hb dX3_isOutside_0 rfl (lv_at hl 1 rfl) ?_
  refine lv_if_lt (tgt := 17) hx hb dX3_isOutside_1 (by decide) (fun c_1_0 => ?_) (fun c_1_0 => ?_)
  · refine lv_iconst (v := 1) hx hb dX3_isOutside_17 (by decide) ?_
    refine lv_goto (tgt := 22) hx hb dX3_isOutside_18 (by decide) ?_
    exact W.zret (ty := .boolean) (v := (1 : Int32)) hx hb hr rfl (fun t ht hW => ⟨(1 : Int32), rfl, (by unfold mX3_isOutside; rewrite [if_pos c_1_0]; (first | done | rfl)), ht⟩) (fun q h => nomatch h) dX3_isOutside_22
  · refine lv_iload_n hx hb dX3_isOutside_4 rfl (lv_at hl 1 rfl) ?_
    refine lv_iconst (v := 1) hx hb dX3_isOutside_5 (by decide) ?_
    refine lv_aload_n hx hb dX3_isOutside_6 rfl (lv_at hl 0 rfl) ?_
    refine va_get (D := (dC, dI)) (ci := 3) (v := .int (nI L)) (C := RX3) (T := TX3) (N := 8) hx hb hta inA_X3 hown hK hP 4 rfl rfl 1 (by decide) (hta _ aw_86) (fun _ h9 => h9) rfl dX3_isOutside_7 ?_
    refine cx_callSi (va_runSN (As := [.int (nI L)]) (rest := [.int (1 : Int32), .int p0]) ⟨hx, hb, hml, hown, hta⟩ (c_X4_bitsBelow l (nI L)) ⟨va_cnB 1 hta (gC aw_372) rfl rfl rfl (hN.nm 8 rfl) (hta _ aw_38) (by decide +kernel) ⟨Nat.le_of_ble_eq_true rfl, Nat.le_of_ble_eq_true rfl⟩, (hta _ aw_371), trivial⟩ cx_pre0 rfl rfl hl.1 rfl (lv_room (Nat.le_of_ble_eq_true rfl)) dX3_isOutside_10 ⟨Nat.le_of_ble_eq_true rfl, Nat.le_of_ble_eq_true rfl⟩) (fun r hw_2 => ?_)
    subst hw_2
    refine lv_ishl hx hb dX3_isOutside_13 ?_
    refine lv_icmp_lt (tgt := 21) hx hb dX3_isOutside_14 (by decide) (fun c_14_2 => ?_) (fun c_14_2 => ?_)
    · refine lv_iconst (v := 0) hx hb dX3_isOutside_21 (by decide) ?_
      exact W.zret (ty := .boolean) (v := (0 : Int32)) hx hb hr rfl (fun t ht hW => ⟨(0 : Int32), rfl, (by unfold mX3_isOutside; rewrite [if_neg c_1_0]; rewrite [if_pos c_14_2]; (first | done | rfl)), ht⟩) (fun q h => nomatch h) dX3_isOutside_22
    · refine lv_iconst (v := 1) hx hb dX3_isOutside_17 (by decide) ?_
      refine lv_goto (tgt := 22) hx hb dX3_isOutside_18 (by decide) ?_
      exact W.zret (ty := .boolean) (v := (1 : Int32)) hx hb hr rfl (fun t ht hW => ⟨(1 : Int32), rfl, (by unfold mX3_isOutside; rewrite [if_neg c_1_0]; rewrite [if_neg c_14_2]; (first | done | rfl)), ht⟩) (fun q h => nomatch h) dX3_isOutside_22
theorem mX3_isOutside_z (L : Nat) (p0 : Int32) : narrow .boolean (.int (mX3_isOutside L p0)) = .int (mX3_isOutside L p0) := by
  unfold mX3_isOutside
  repeat' split
  all_goals first | rfl | exact rfl
/-- PageRows$Path.leafFault -/
def mX3_leafFault (f10 : Int32) (lf : Int64) (p0 : Int32) : Int32 :=
  if ((mX4_frameOf lf) &&& (((1 : Int32) <<< (((4 : Int32) * f10) &&& 31)) - (1 : Int32))) = 0 then
    if (mX4_allows (mX4_rightsOf lf) p0) = 0 then
      (3 : Int32)
    else
      (0 : Int32)
  else
    (4 : Int32)
set_option maxHeartbeats 4000000 in
set_option maxRecDepth 100000 in
theorem c_X3_leafFault (l : Launch) (dC : Nat → ClassId) (dI : Nat → Nat → Nat) (a : Nat → Nat) (k : Nat → ClassId) (LP : List Nat) (N : Nat) (L : Nat) (f1 f2 f3 f4 f5 f6 f7 f8 : Int32) (rd : Nat) (f10 f11 f12 : Int32) (n : Nat) (f14 : Int32) (lf : Int64) (wd : Nat → Int64) (ho ro pa : Nat → Int32) (rs : Nat → Option Nat) (E : Nat → Nat → Int32)  (p0 : Int32)  : Met l yX3_leafFault (wX3_leafFault :: AW) ({ frames := 1, cells := 0, slots := 0, locals := 23 }) (va_Pc [.ref (a 4), .int p0] (CPre dC dI (CWl a k LP N L f1 f2 f3 f4 f5 f6 f7 f8 rd f10 f11 f12 n f14 lf wd ho ro pa rs E) [(k 0, .long), (k 1, .int), (k 2, .int), (k 3, .object "PageRows$Entry"), (k 4, .int)])) (vp_Si (fun r => r = mX3_leafFault f10 lf p0)) 0 0 (fun _ => False) := by
  refine cx_of (cc := cX3_leafFault) (maxL := 3) (ret := some .int) (by decide) rfl (Nat.le_of_ble_eq_true rfl) ?_
  intro p e s m below meth c ls hx hb hr hts hown hlocks hml hnm hl hB
  have hta : ∀ w ∈ AW, w.before [.ref (a 4), .int p0].toArray s = true := fun w h => hts w (List.mem_cons_of_mem _ h)
  have hl : lv_has ls 3 [(0, .ref (a 4)), (1, .int p0)] := hl
  have hown : s.vm.findClass RX3 = some m.cls := hown
  obtain ⟨hP, hK, hN⟩ := hB
  refine lv_iconst (v := 1) hx hb dX3_leafFault_0 (by decide) ?_
  refine lv_iconst (v := 4) hx hb dX3_leafFault_1 (by decide) ?_
  refine lv_aload_n hx hb dX3_leafFault_2 rfl (lv_at hl 0 rfl) ?_
  refine va_get (D := (dC, dI)) (ci := 3) (v := .int f10) (C := RX3) (T := TX3) (N := 8) hx hb hta inA_X3 hown hK hP 4 rfl rfl 5 (by decide) (hta _ aw_92) (fun _ h9 => h9) rfl dX3_leafFault_3 ?_
  refine lv_imul hx hb dX3_leafFault_6 ?_
  refine lv_ishl hx hb dX3_leafFault_7 ?_
  refine lv_iconst (v := 1) hx hb dX3_leafFault_8 (by decide) ?_
  refine lv_isub hx hb dX3_leafFault_9 ?_
  refine lv_istore_n (lv' := [(2, .int (((1 : Int32) <<< (((4 : Int32) * f10) &&& 31)) - (1 : Int32))), (0, .ref (a 4)), (1, .int p0)]) hx hb dX3_leafFault_10 rfl hl (by decide) rfl (fun ls hl => ?_)
  refine lv_aload_n hx hb dX3_leafFault_11 rfl (lv_at hl 1 rfl) ?_
  refine va_get (D := (dC, dI)) (ci := 3) (v := .long lf) (C := RX3) (T := TX3) (N := 8) hx hb hta inA_X3 hown hK hP 4 rfl rfl 4 (by decide) (hta _ aw_90) (fun _ h9 => h9) rfl dX3_leafFault_12 ?_
  refine cx_callSi (va_runSN (As := [.long lf]) (rest := []) ⟨hx, hb, hml, hown, hta⟩ (c_X4_frameOf l lf) ⟨va_cnB 1 hta (gC aw_409) rfl rfl rfl (hN.nm 10 rfl) (hta _ aw_38) (by decide +kernel) ⟨Nat.le_of_ble_eq_true rfl, Nat.le_of_ble_eq_true rfl⟩, (hta _ aw_408), trivial⟩ cx_pre0 rfl rfl hl.1 rfl (lv_room (Nat.le_of_ble_eq_true rfl)) dX3_leafFault_15 ⟨Nat.le_of_ble_eq_true rfl, Nat.le_of_ble_eq_true rfl⟩) (fun r hw_1 => ?_)
  subst hw_1
  refine lv_iload_n hx hb dX3_leafFault_18 rfl (lv_at hl 0 rfl) ?_
  refine lv_iand hx hb dX3_leafFault_19 ?_
  refine lv_if_eq (tgt := 25) hx hb dX3_leafFault_20 (by decide) (fun c_20_1 => ?_) (fun c_20_1 => ?_)
  · refine lv_aload_n hx hb dX3_leafFault_25 rfl (lv_at hl 1 rfl) ?_
    refine va_get (D := (dC, dI)) (ci := 3) (v := .long lf) (C := RX3) (T := TX3) (N := 8) hx hb hta inA_X3 hown hK hP 4 rfl rfl 4 (by decide) (hta _ aw_90) (fun _ h9 => h9) rfl dX3_leafFault_26 ?_
    refine cx_callSi (va_runSN (As := [.long lf]) (rest := []) ⟨hx, hb, hml, hown, hta⟩ (c_X4_rightsOf l lf) ⟨va_cnB 1 hta (gC aw_418) rfl rfl rfl (hN.nm 11 rfl) (hta _ aw_38) (by decide +kernel) ⟨Nat.le_of_ble_eq_true rfl, Nat.le_of_ble_eq_true rfl⟩, (hta _ aw_417), trivial⟩ cx_pre0 rfl rfl hl.1 rfl (lv_room (Nat.le_of_ble_eq_true rfl)) dX3_leafFault_29 ⟨Nat.le_of_ble_eq_true rfl, Nat.le_of_ble_eq_true rfl⟩) (fun r hw_3 => ?_)
    subst hw_3
    refine lv_iload_n hx hb dX3_leafFault_32 rfl (lv_at hl 2 rfl) ?_
    refine cx_callSi (va_runSN (As := [.int (mX4_rightsOf lf), .int p0]) (rest := []) ⟨hx, hb, hml, hown, hta⟩ (c_X4_allows l (mX4_rightsOf lf) p0) ⟨va_cnB 2 hta (gC aw_381) rfl rfl rfl (hN.nm 12 rfl) (hta _ aw_38) (by decide +kernel) ⟨Nat.le_of_ble_eq_true rfl, Nat.le_of_ble_eq_true rfl⟩, (hta _ aw_380), trivial⟩ cx_pre0 rfl rfl hl.1 rfl (lv_room (Nat.le_of_ble_eq_true rfl)) dX3_leafFault_33 ⟨Nat.le_of_ble_eq_true rfl, Nat.le_of_ble_eq_true rfl⟩) (fun r hw_4 => ?_)
    subst hw_4
    refine lv_if_eq (tgt := 43) hx hb dX3_leafFault_36 (by decide) (fun c_36_4 => ?_) (fun c_36_4 => ?_)
    · refine lv_iconst (v := 3) hx hb dX3_leafFault_43 (by decide) ?_
      exact W.iret (v := (3 : Int32)) hx hb hr (fun t ht hW => ⟨(3 : Int32), rfl, (by unfold mX3_leafFault; rewrite [if_pos c_20_1]; rewrite [if_pos c_36_4]; (first | done | rfl)), ht⟩) (fun q h => nomatch h) dX3_leafFault_44
    · refine lv_iconst (v := 0) hx hb dX3_leafFault_39 (by decide) ?_
      refine lv_goto (tgt := 44) hx hb dX3_leafFault_40 (by decide) ?_
      exact W.iret (v := (0 : Int32)) hx hb hr (fun t ht hW => ⟨(0 : Int32), rfl, (by unfold mX3_leafFault; rewrite [if_pos c_20_1]; rewrite [if_neg c_36_4]; (first | done | rfl)), ht⟩) (fun q h => nomatch h) dX3_leafFault_44
  · refine lv_iconst (v := 4) hx hb dX3_leafFault_23 (by decide) ?_
    exact W.iret (v := (4 : Int32)) hx hb hr (fun t ht hW => ⟨(4 : Int32), rfl, (by unfold mX3_leafFault; rewrite [if_neg c_20_1]; (first | done | rfl)), ht⟩) (fun q h => nomatch h) dX3_leafFault_24
/-- PageRows$Path.stop -/
def mX3_stop (p0 : Int32) (p1 : Int32) : Int32 × Int32 :=
  (p0, p1)
set_option maxHeartbeats 4000000 in
set_option maxRecDepth 100000 in
theorem c_X3_stop (l : Launch) (dC : Nat → ClassId) (dI : Nat → Nat → Nat) (a : Nat → Nat) (k : Nat → ClassId) (LP : List Nat) (N : Nat) (L : Nat) (f1 f2 f3 f4 f5 f6 f7 f8 : Int32) (rd : Nat) (f10 f11 f12 : Int32) (n : Nat) (f14 : Int32) (lf : Int64) (wd : Nat → Int64) (ho ro pa : Nat → Int32) (rs : Nat → Option Nat) (E : Nat → Nat → Int32)  (sz : Nat) (p0 : Int32) (p1 : Int32)  : Met l yX3_stop (wX3_stop :: AW) ({ frames := 0, cells := 0, slots := 0, locals := 0 }) (va_Pc [.ref (a 4), .int p0, .int p1] (CPrQ dC dI (CWl a k LP N L f1 f2 f3 f4 f5 f6 f7 f8 rd f10 f11 f12 n f14 lf wd ho ro pa rs E) [(k 0, .long), (k 1, .int), (k 2, .int), (k 3, .object "PageRows$Entry"), (k 4, .int)] sz)) (va_Qi (fun (r : Int32) (u : Int32) => (r, u) = mX3_stop p0 p1) (fun (u : Int32) (t : State) => match u with | f11' => va_P (dC, dI) vwCl (CWl a k LP N L f1 f2 f3 f4 f5 f6 f7 f8 rd f10 f11' f12 n f14 lf wd ho ro pa rs E) t.heap ∧ va_K (dC, dI) vwCl [(k 0, .long), (k 1, .int), (k 2, .int), (k 3, .object "PageRows$Entry"), (k 4, .int)] t ∧ va_D (va_A (CWl a k LP N L f1 f2 f3 f4 f5 f6 f7 f8 rd f10 f11 f12 n f14 lf wd ho ro pa rs E) sz) (CWl a k LP N L f1 f2 f3 f4 f5 f6 f7 f8 rd f10 f11' f12 n f14 lf wd ho ro pa rs E)) (va_A (CWl a k LP N L f1 f2 f3 f4 f5 f6 f7 f8 rd f10 f11 f12 n f14 lf wd ho ro pa rs E) sz)) 0 0 (va_A (CWl a k LP N L f1 f2 f3 f4 f5 f6 f7 f8 rd f10 f11 f12 n f14 lf wd ho ro pa rs E) sz) := by
  refine cx_of (cc := cX3_stop) (maxL := 3) (ret := some .int) (by decide) rfl (Nat.le_of_ble_eq_true rfl) ?_
  intro p e s m below meth c ls hx hb hr hts hown hlocks hml hnm hl hB
  have hta : ∀ w ∈ AW, w.before [.ref (a 4), .int p0, .int p1].toArray s = true := fun w h => hts w (List.mem_cons_of_mem _ h)
  have hl : lv_has ls 3 [(0, .ref (a 4)), (1, .int p0), (2, .int p1)] := hl
  have hown : s.vm.findClass RX3 = some m.cls := hown
  obtain ⟨rfl, ⟨hP, hK, hN⟩, hD0⟩ := hB
  have hD := hD0.self (sz := s.heap.size)
  generalize hAe : va_A (CWl a k LP N L f1 f2 f3 f4 f5 f6 f7 f8 rd f10 f11 f12 n f14 lf wd ho ro pa rs E) s.heap.size = A at hD ⊢
  have hA : ∀ q : Nat, s.heap.size ≤ q → A q := fun q h => by rw [← hAe]; exact Or.inr h
  have hS : va_S A s.heap s.heap [] := va_S.rf
  refine lv_aload_n hx hb dX3_stop_0 rfl (lv_at hl 0 rfl) ?_
  refine lv_iload_n hx hb dX3_stop_1 rfl (lv_at hl 2 rfl) ?_
  refine va_put (D := (dC, dI)) (ci := 3) (v := .int p1) (ty := .int) (C := RX3) (T := TX3) (N := 8) hx hb hta inA_X3 tyX3 tyX3_ok nmX3 hown hK hP hD hS 4 rfl rfl 6 (by decide) (hta _ aw_94) (fun _ h9 => h9) rfl (by decide +kernel) rfl rfl (Nat.le_of_ble_eq_true rfl) dX3_stop_2 (fun H locs hP hD hS => ?_)
  have hP : va_P (dC, dI) vwCl (CWl a k LP N L f1 f2 f3 f4 f5 f6 f7 f8 rd f10 p1 f12 n f14 lf wd ho ro pa rs E) H := hP
  have hD : va_D A (CWl a k LP N L f1 f2 f3 f4 f5 f6 f7 f8 rd f10 p1 f12 n f14 lf wd ho ro pa rs E) := hD
  refine lv_iload_n hx hb dX3_stop_5 rfl (lv_at hl 1 rfl) ?_
  exact W.iret (v := p0) hx hb hr (fun t ht hW => ⟨⟨p0, p1, rfl, (by unfold mX3_stop; (first | done | rfl)), by rw [ht]; exact hP, va_K.moved hW.alike hK, hD⟩, hS.F ht⟩) hS.2.2 dX3_stop_6
/-- PageRows$Path.read -/
def mX3_read (f8 : Int32) (rd : Nat) (lf : Int64) (wd : Nat → Int64) (ho : Nat → Int32) (pa : Nat → Int32) (p0 : Int32) (p1 : Int32) : Int32 × Nat × Int64 × (Nat → Int32) :=
  if (mX2_homeOf f8 ho p0) = (-1 : Int32) then
    ((6 : Int32), rd, lf, pa)
  else
    if (mX2_homeOf f8 ho p0) < (256 : Int32) then
      if (lg_cmp ((wd (((mX2_homeOf f8 ho p0) * (16 : Int32)) + (p1 &&& (15 : Int32))).toNatClampNeg) &&& (1 : Int64)) (0 : Int64)) = 0 then
        ((2 : Int32), (rd + 1), wd (((mX2_homeOf f8 ho p0) * (16 : Int32)) + (p1 &&& (15 : Int32))).toNatClampNeg, upd pa rd (((mX2_homeOf f8 ho p0) * (16 : Int32)) + (p1 &&& (15 : Int32))))
      else
        ((0 : Int32), (rd + 1), wd (((mX2_homeOf f8 ho p0) * (16 : Int32)) + (p1 &&& (15 : Int32))).toNatClampNeg, upd pa rd (((mX2_homeOf f8 ho p0) * (16 : Int32)) + (p1 &&& (15 : Int32))))
    else
      ((5 : Int32), rd, lf, pa)
set_option maxHeartbeats 4000000 in
set_option maxRecDepth 100000 in
theorem c_X3_read (l : Launch) (dC : Nat → ClassId) (dI : Nat → Nat → Nat) (a : Nat → Nat) (k : Nat → ClassId) (LP : List Nat) (N : Nat) (L : Nat) (f1 f2 f3 f4 f5 f6 f7 f8 : Int32) (rd : Nat) (f10 f11 f12 : Int32) (n : Nat) (f14 : Int32) (lf : Int64) (wd : Nat → Int64) (ho ro pa : Nat → Int32) (rs : Nat → Option Nat) (E : Nat → Nat → Int32)  (sz : Nat) (p0 : Int32) (p1 : Int32) (h0 : ¬ mX2_homeOf f8 ho p0 = (-1 : Int32) → ¬ mX2_homeOf f8 ho p0 < 0) (hrd : rd < 4) : Met l yX3_read (wX3_read :: AW) ({ frames := 1, cells := 0, slots := 0, locals := 21 }) (va_Pc [.ref (a 4), .int p0, .int p1] (CPrQ dC dI (CWl a k LP N L f1 f2 f3 f4 f5 f6 f7 f8 rd f10 f11 f12 n f14 lf wd ho ro pa rs E) [(k 0, .long), (k 1, .int), (k 2, .int), (k 3, .object "PageRows$Entry"), (k 4, .int)] sz)) (va_Qi (fun (r : Int32) (u : Nat × Int64 × (Nat → Int32)) => (r, u) = mX3_read f8 rd lf wd ho pa p0 p1) (fun (u : Nat × Int64 × (Nat → Int32)) (t : State) => match u with | (rd', lf', pa') => va_P (dC, dI) vwCl (CWl a k LP N L f1 f2 f3 f4 f5 f6 f7 f8 rd' f10 f11 f12 n f14 lf' wd ho ro pa' rs E) t.heap ∧ va_K (dC, dI) vwCl [(k 0, .long), (k 1, .int), (k 2, .int), (k 3, .object "PageRows$Entry"), (k 4, .int)] t ∧ va_D (va_A (CWl a k LP N L f1 f2 f3 f4 f5 f6 f7 f8 rd f10 f11 f12 n f14 lf wd ho ro pa rs E) sz) (CWl a k LP N L f1 f2 f3 f4 f5 f6 f7 f8 rd' f10 f11 f12 n f14 lf' wd ho ro pa' rs E)) (va_A (CWl a k LP N L f1 f2 f3 f4 f5 f6 f7 f8 rd f10 f11 f12 n f14 lf wd ho ro pa rs E) sz)) 0 0 (va_A (CWl a k LP N L f1 f2 f3 f4 f5 f6 f7 f8 rd f10 f11 f12 n f14 lf wd ho ro pa rs E) sz) := by
  refine cx_of (cc := cX3_read) (maxL := 5) (ret := some .int) (by decide) rfl (Nat.le_of_ble_eq_true rfl) ?_
  intro p e s m below meth c ls hx hb hr hts hown hlocks hml hnm hl hB
  have hta : ∀ w ∈ AW, w.before [.ref (a 4), .int p0, .int p1].toArray s = true := fun w h => hts w (List.mem_cons_of_mem _ h)
  have hl : lv_has ls 5 [(0, .ref (a 4)), (1, .int p0), (2, .int p1)] := hl
  have hown : s.vm.findClass RX3 = some m.cls := hown
  obtain ⟨rfl, ⟨hP, hK, hN⟩, hD0⟩ := hB
  have hD := hD0.self (sz := s.heap.size)
  generalize hAe : va_A (CWl a k LP N L f1 f2 f3 f4 f5 f6 f7 f8 rd f10 f11 f12 n f14 lf wd ho ro pa rs E) s.heap.size = A at hD ⊢
  have hA : ∀ q : Nat, s.heap.size ≤ q → A q := fun q h => by rw [← hAe]; exact Or.inr h
  have hS : va_S A s.heap s.heap [] := va_S.rf
  refine lv_aload_n hx hb dX3_read_0 rfl (lv_at hl 0 rfl) ?_
  refine va_get (D := (dC, dI)) (ci := 3) (v := .ref (a 1)) (C := RX3) (T := TX3) (N := 8) hx hb hta inA_X3 hown hK hP 4 rfl rfl 0 (by decide) (hta _ aw_85) (fun _ h9 => h9) rfl dX3_read_1 ?_
  refine lv_iload_n hx hb dX3_read_4 rfl (lv_at hl 1 rfl) ?_
  refine cx_callSi (va_runVN (As := [.int p0]) (rest := []) ⟨hx, hb, hml, hown, hta⟩ (c_X2_homeOf l dC dI a k LP N L f1 f2 f3 f4 f5 f6 f7 f8 rd f10 f11 f12 n f14 lf wd ho ro pa rs E p0) ⟨va_cnB 1 hta (gC aw_406) rfl rfl rfl (hN.nm 9 rfl) (hta _ aw_39) (by decide +kernel) ⟨Nat.le_of_ble_eq_true rfl, Nat.le_of_ble_eq_true rfl⟩, (hta _ aw_405), (hta _ aw_8)⟩ (cx_preVS hK hP hN (va_recv hK hP (ci := 2) (q0 := 1) rfl rfl)) rfl rfl hl.1 rfl (lv_room (Nat.le_of_ble_eq_true rfl)) dX3_read_5 ⟨Nat.le_of_ble_eq_true rfl, Nat.le_of_ble_eq_true rfl⟩) (fun r hw_1 => ?_)
  subst hw_1
  refine lv_istore_n (lv' := [(3, .int (mX2_homeOf f8 ho p0)), (0, .ref (a 4)), (1, .int p0), (2, .int p1)]) hx hb dX3_read_8 rfl hl (by decide) rfl (fun ls hl => ?_)
  refine lv_iload_n hx hb dX3_read_9 rfl (lv_at hl 0 rfl) ?_
  refine lv_iconst (v := (-1)) hx hb dX3_read_10 (by decide) ?_
  refine lv_icmp_ne (tgt := 17) hx hb dX3_read_11 (by decide) (fun c_11_1 => ?_) (fun c_11_1 => ?_)
  · refine lv_iload_n hx hb dX3_read_17 rfl (lv_at hl 0 rfl) ?_
    refine lv_sipush (v := 256) hx hb dX3_read_18 (by decide) ?_
    refine lv_icmp_lt (tgt := 26) hx hb dX3_read_21 (by decide) (fun c_21_2 => ?_) (fun c_21_2 => ?_)
    · refine lv_iload_n hx hb dX3_read_26 rfl (lv_at hl 0 rfl) ?_
      refine lv_bipush (v := 16) hx hb dX3_read_27 (by decide) ?_
      refine lv_imul hx hb dX3_read_29 ?_
      refine lv_iload_n hx hb dX3_read_30 rfl (lv_at hl 3 rfl) ?_
      refine lv_bipush (v := 15) hx hb dX3_read_31 (by decide) ?_
      refine lv_iand hx hb dX3_read_33 ?_
      refine lv_iadd hx hb dX3_read_34 ?_
      refine lv_istore (lv' := [(4, .int (((mX2_homeOf f8 ho p0) * (16 : Int32)) + (p1 &&& (15 : Int32)))), (3, .int (mX2_homeOf f8 ho p0)), (0, .ref (a 4)), (1, .int p0), (2, .int p1)]) hx hb dX3_read_35 hl (by decide) rfl (fun ls hl => ?_)
      refine lv_aload_n hx hb dX3_read_37 rfl (lv_at hl 2 rfl) ?_
      refine lv_aload_n hx hb dX3_read_38 rfl (lv_at hl 2 rfl) ?_
      refine va_get (D := (dC, dI)) (ci := 3) (v := .ref (a 1)) (C := RX3) (T := TX3) (N := 8) hx hb hta inA_X3 hown hK hP 4 rfl rfl 0 (by decide) (hta _ aw_85) (fun _ h9 => h9) rfl dX3_read_39 ?_
      refine va_getN (D := (dC, dI)) (ci := 2) (v := .ref (a 2)) (C := RX2) (T := TX2) (N := 3) hx hb hta inA_X2 hown hK hP 1 rfl rfl 0 (by decide) (hN.nf 1 rfl) (fun _ h9 => h9) rfl dX3_read_42 ?_
      refine lv_iload hx hb dX3_read_45 (lv_at hl 0 rfl) ?_
      refine va_lald hx hb hK hP 2 0 rfl rfl (cx_wordin (h0 c_11_1) c_21_2) dX3_read_47 ?_
      refine va_put (D := (dC, dI)) (ci := 3) (v := .long (wd (((mX2_homeOf f8 ho p0) * (16 : Int32)) + (p1 &&& (15 : Int32))).toNatClampNeg)) (ty := .long) (C := RX3) (T := TX3) (N := 8) hx hb hta inA_X3 tyX3 tyX3_ok nmX3 hown hK hP hD hS 4 rfl rfl 4 (by decide) (hta _ aw_90) (fun _ h9 => h9) rfl (by decide +kernel) rfl rfl (Nat.le_of_ble_eq_true rfl) dX3_read_48 (fun H locs hP hD hS => ?_)
      have hP : va_P (dC, dI) vwCl (CWl a k LP N L f1 f2 f3 f4 f5 f6 f7 f8 rd f10 f11 f12 n f14 (wd (((mX2_homeOf f8 ho p0) * (16 : Int32)) + (p1 &&& (15 : Int32))).toNatClampNeg) wd ho ro pa rs E) H := hP
      have hD : va_D A (CWl a k LP N L f1 f2 f3 f4 f5 f6 f7 f8 rd f10 f11 f12 n f14 (wd (((mX2_homeOf f8 ho p0) * (16 : Int32)) + (p1 &&& (15 : Int32))).toNatClampNeg) wd ho ro pa rs E) := hD
      refine lv_aload_n hx hb dX3_read_51 rfl (lv_at hl 2 rfl) ?_
      refine va_get (D := (dC, dI)) (ci := 3) (v := .ref (a 5)) (C := RX3) (T := TX3) (N := 8) hx hb hta inA_X3 hown hK hP 4 rfl rfl 2 (by decide) (hta _ aw_87) (fun _ h9 => h9) rfl dX3_read_52 ?_
      refine lv_aload_n hx hb dX3_read_55 rfl (lv_at hl 2 rfl) ?_
      refine va_get (D := (dC, dI)) (ci := 3) (v := .int (nI rd)) (C := RX3) (T := TX3) (N := 8) hx hb hta inA_X3 hown hK hP 4 rfl rfl 3 (by decide) (hta _ aw_88) (fun _ h9 => h9) rfl dX3_read_56 ?_
      refine lv_iload hx hb dX3_read_59 (lv_at hl 0 rfl) ?_
      refine va_iast hx hb hK hP hD hS 5 2 rfl rfl (vp_in_nI hrd (by decide)) dX3_read_61 (fun H locs hP hD hS => ?_)
      rw [nI_clamp (show rd < 2 ^ 31 by omega)] at hP hD
      have hP : va_P (dC, dI) vwCl (CWl a k LP N L f1 f2 f3 f4 f5 f6 f7 f8 rd f10 f11 f12 n f14 (wd (((mX2_homeOf f8 ho p0) * (16 : Int32)) + (p1 &&& (15 : Int32))).toNatClampNeg) wd ho ro (upd pa rd (((mX2_homeOf f8 ho p0) * (16 : Int32)) + (p1 &&& (15 : Int32)))) rs E) H := hP
      have hD : va_D A (CWl a k LP N L f1 f2 f3 f4 f5 f6 f7 f8 rd f10 f11 f12 n f14 (wd (((mX2_homeOf f8 ho p0) * (16 : Int32)) + (p1 &&& (15 : Int32))).toNatClampNeg) wd ho ro (upd pa rd (((mX2_homeOf f8 ho p0) * (16 : Int32)) + (p1 &&& (15 : Int32)))) rs E) := hD
      refine lv_aload_n hx hb dX3_read_62 rfl (lv_at hl 2 rfl) ?_
      refine lv_dup hx hb dX3_read_63 rfl ?_
      refine va_get (D := (dC, dI)) (ci := 3) (v := .int (nI rd)) (C := RX3) (T := TX3) (N := 8) hx hb hta inA_X3 hown hK hP 4 rfl rfl 3 (by decide) (hta _ aw_88) (fun _ h9 => h9) rfl dX3_read_64 ?_
      refine lv_iconst (v := 1) hx hb dX3_read_67 (by decide) ?_
      refine lv_iadd hx hb dX3_read_68 ?_
      rw [show (nI rd) + (1 : Int32) = nI (rd + 1) from nI_add rd 1]
      refine va_put (D := (dC, dI)) (ci := 3) (v := .int (nI (rd + 1))) (ty := .int) (C := RX3) (T := TX3) (N := 8) hx hb hta inA_X3 tyX3 tyX3_ok nmX3 hown hK hP hD hS 4 rfl rfl 3 (by decide) (hta _ aw_88) (fun _ h9 => h9) rfl (by decide +kernel) rfl rfl (Nat.le_of_ble_eq_true rfl) dX3_read_69 (fun H locs hP hD hS => ?_)
      have hP : va_P (dC, dI) vwCl (CWl a k LP N L f1 f2 f3 f4 f5 f6 f7 f8 (rd + 1) f10 f11 f12 n f14 (wd (((mX2_homeOf f8 ho p0) * (16 : Int32)) + (p1 &&& (15 : Int32))).toNatClampNeg) wd ho ro (upd pa rd (((mX2_homeOf f8 ho p0) * (16 : Int32)) + (p1 &&& (15 : Int32)))) rs E) H := hP
      have hD : va_D A (CWl a k LP N L f1 f2 f3 f4 f5 f6 f7 f8 (rd + 1) f10 f11 f12 n f14 (wd (((mX2_homeOf f8 ho p0) * (16 : Int32)) + (p1 &&& (15 : Int32))).toNatClampNeg) wd ho ro (upd pa rd (((mX2_homeOf f8 ho p0) * (16 : Int32)) + (p1 &&& (15 : Int32)))) rs E) := hD
      refine lv_aload_n hx hb dX3_read_72 rfl (lv_at hl 2 rfl) ?_
      refine va_get (D := (dC, dI)) (ci := 3) (v := .long (wd (((mX2_homeOf f8 ho p0) * (16 : Int32)) + (p1 &&& (15 : Int32))).toNatClampNeg)) (C := RX3) (T := TX3) (N := 8) hx hb hta inA_X3 hown hK hP 4 rfl rfl 4 (by decide) (hta _ aw_90) (fun _ h9 => h9) rfl dX3_read_73 ?_
      refine lv_lconst (v := 1) hx hb dX3_read_76 (by decide) ?_
      refine lv_land hx hb dX3_read_77 ?_
      refine lv_lconst (v := 0) hx hb dX3_read_78 (by decide) ?_
      refine W.lcmp hx hb dX3_read_79 ?_
      refine lv_if_ne (tgt := 87) hx hb dX3_read_80 (by decide) (fun c_80_3 => ?_) (fun c_80_3 => ?_)
      · refine lv_iconst (v := 0) hx hb dX3_read_87 (by decide) ?_
        exact W.iret (v := (0 : Int32)) hx hb hr (fun t ht hW => ⟨⟨(0 : Int32), ((rd + 1), wd (((mX2_homeOf f8 ho p0) * (16 : Int32)) + (p1 &&& (15 : Int32))).toNatClampNeg, upd pa rd (((mX2_homeOf f8 ho p0) * (16 : Int32)) + (p1 &&& (15 : Int32)))), rfl, (by unfold mX3_read; rewrite [if_neg c_11_1]; rewrite [if_pos c_21_2]; rewrite [if_neg c_80_3]; (first | done | rfl)), by rw [ht]; exact hP, va_K.moved hW.alike hK, hD⟩, hS.F ht⟩) hS.2.2 dX3_read_88
      · refine lv_iconst (v := 2) hx hb dX3_read_83 (by decide) ?_
        refine lv_goto (tgt := 88) hx hb dX3_read_84 (by decide) ?_
        exact W.iret (v := (2 : Int32)) hx hb hr (fun t ht hW => ⟨⟨(2 : Int32), ((rd + 1), wd (((mX2_homeOf f8 ho p0) * (16 : Int32)) + (p1 &&& (15 : Int32))).toNatClampNeg, upd pa rd (((mX2_homeOf f8 ho p0) * (16 : Int32)) + (p1 &&& (15 : Int32)))), rfl, (by unfold mX3_read; rewrite [if_neg c_11_1]; rewrite [if_pos c_21_2]; rewrite [if_pos c_80_3]; (first | done | rfl)), by rw [ht]; exact hP, va_K.moved hW.alike hK, hD⟩, hS.F ht⟩) hS.2.2 dX3_read_88
    · refine lv_iconst (v := 5) hx hb dX3_read_24 (by decide) ?_
      exact W.iret (v := (5 : Int32)) hx hb hr (fun t ht hW => ⟨⟨(5 : Int32), (rd, lf, pa), rfl, (by unfold mX3_read; rewrite [if_neg c_11_1]; rewrite [if_neg c_21_2]; (first | done | rfl)), by rw [ht]; exact hP, va_K.moved hW.alike hK, hD⟩, hS.F ht⟩) hS.2.2 dX3_read_25
  · refine lv_bipush (v := 6) hx hb dX3_read_14 (by decide) ?_
    exact W.iret (v := (6 : Int32)) hx hb hr (fun t ht hW => ⟨⟨(6 : Int32), (rd, lf, pa), rfl, (by unfold mX3_read; rewrite [if_pos c_11_1]; (first | done | rfl)), by rw [ht]; exact hP, va_K.moved hW.alike hK, hD⟩, hS.F ht⟩) hS.2.2 dX3_read_16
/-- PageRows.finish -/
def mX4_finish (f7 : Int32) (p0 : Int32) (p1 : Int32) (p2 : Int32) : Int32 × Int32 × Int32 × Int32 :=
  if p0 = 0 then
    (p0, p2, (-1 : Int32), f7)
  else
    (p0, p2, p1, f7 + (1 : Int32))
set_option maxHeartbeats 4000000 in
set_option maxRecDepth 100000 in
theorem c_X4_finish (l : Launch) (dC : Nat → ClassId) (dI : Nat → Nat → Nat) (a : Nat → Nat) (k : Nat → ClassId) (LP : List Nat) (N : Nat) (L : Nat) (f1 f2 f3 f4 f5 f6 f7 f8 : Int32) (rd : Nat) (f10 f11 f12 : Int32) (n : Nat) (f14 : Int32) (lf : Int64) (wd : Nat → Int64) (ho ro pa : Nat → Int32) (rs : Nat → Option Nat) (E : Nat → Nat → Int32)  (sz : Nat) (p0 : Int32) (p1 : Int32) (p2 : Int32)  : Met l yX4_finish (wX4_finish :: AW) ({ frames := 0, cells := 0, slots := 0, locals := 0 }) (va_Pc [.ref (a 0), .int p0, .int p1, .int p2] (CPrQ dC dI (CWl a k LP N L f1 f2 f3 f4 f5 f6 f7 f8 rd f10 f11 f12 n f14 lf wd ho ro pa rs E) [(k 0, .long), (k 1, .int), (k 2, .int), (k 3, .object "PageRows$Entry"), (k 4, .int)] sz)) (va_Qi (fun (r : Int32) (u : Int32 × Int32 × Int32) => (r, u) = mX4_finish f7 p0 p1 p2) (fun (u : Int32 × Int32 × Int32) (t : State) => match u with | (f2', f3', f7') => va_P (dC, dI) vwCl (CWl a k LP N L f1 f2' f3' f4 f5 f6 f7' f8 rd f10 f11 f12 n f14 lf wd ho ro pa rs E) t.heap ∧ va_K (dC, dI) vwCl [(k 0, .long), (k 1, .int), (k 2, .int), (k 3, .object "PageRows$Entry"), (k 4, .int)] t ∧ va_D (va_A (CWl a k LP N L f1 f2 f3 f4 f5 f6 f7 f8 rd f10 f11 f12 n f14 lf wd ho ro pa rs E) sz) (CWl a k LP N L f1 f2' f3' f4 f5 f6 f7' f8 rd f10 f11 f12 n f14 lf wd ho ro pa rs E)) (va_A (CWl a k LP N L f1 f2 f3 f4 f5 f6 f7 f8 rd f10 f11 f12 n f14 lf wd ho ro pa rs E) sz)) 0 0 (va_A (CWl a k LP N L f1 f2 f3 f4 f5 f6 f7 f8 rd f10 f11 f12 n f14 lf wd ho ro pa rs E) sz) := by
  refine cx_of (cc := cX4_finish) (maxL := 4) (ret := some .int) (by decide) rfl (Nat.le_of_ble_eq_true rfl) ?_
  intro p e s m below meth c ls hx hb hr hts hown hlocks hml hnm hl hB
  have hta : ∀ w ∈ AW, w.before [.ref (a 0), .int p0, .int p1, .int p2].toArray s = true := fun w h => hts w (List.mem_cons_of_mem _ h)
  have hl : lv_has ls 4 [(0, .ref (a 0)), (1, .int p0), (2, .int p1), (3, .int p2)] := hl
  have hown : s.vm.findClass RX4 = some m.cls := hown
  obtain ⟨rfl, ⟨hP, hK, hN⟩, hD0⟩ := hB
  have hD := hD0.self (sz := s.heap.size)
  generalize hAe : va_A (CWl a k LP N L f1 f2 f3 f4 f5 f6 f7 f8 rd f10 f11 f12 n f14 lf wd ho ro pa rs E) s.heap.size = A at hD ⊢
  have hA : ∀ q : Nat, s.heap.size ≤ q → A q := fun q h => by rw [← hAe]; exact Or.inr h
  have hS : va_S A s.heap s.heap [] := va_S.rf
  refine lv_aload_n hx hb dX4_finish_0 rfl (lv_at hl 0 rfl) ?_
  refine lv_iload_n hx hb dX4_finish_1 rfl (lv_at hl 3 rfl) ?_
  refine va_put (D := (dC, dI)) (ci := 4) (v := .int p2) (ty := .int) (C := RX4) (T := TX4) (N := 12) hx hb hta inA_X4 tyX4 tyX4_ok nmX4 hown hK hP hD hS 0 rfl rfl 6 (by decide) (hta _ aw_178) (fun _ h9 => h9) rfl (by decide +kernel) rfl rfl (Nat.le_of_ble_eq_true rfl) dX4_finish_2 (fun H locs hP hD hS => ?_)
  have hP : va_P (dC, dI) vwCl (CWl a k LP N L f1 p2 f3 f4 f5 f6 f7 f8 rd f10 f11 f12 n f14 lf wd ho ro pa rs E) H := hP
  have hD : va_D A (CWl a k LP N L f1 p2 f3 f4 f5 f6 f7 f8 rd f10 f11 f12 n f14 lf wd ho ro pa rs E) := hD
  refine lv_aload_n hx hb dX4_finish_5 rfl (lv_at hl 0 rfl) ?_
  refine lv_iload_n hx hb dX4_finish_6 rfl (lv_at hl 1 rfl) ?_
  refine lv_if_ne (tgt := 14) hx hb dX4_finish_7 (by decide) (fun c_7_0 => ?_) (fun c_7_0 => ?_)
  · refine lv_iload_n hx hb dX4_finish_14 rfl (lv_at hl 2 rfl) ?_
    refine va_put (D := (dC, dI)) (ci := 4) (v := .int p1) (ty := .int) (C := RX4) (T := TX4) (N := 12) hx hb hta inA_X4 tyX4 tyX4_ok nmX4 hown hK hP hD hS 0 rfl rfl 7 (by decide) (hta _ aw_179) (fun _ h9 => h9) rfl (by decide +kernel) rfl rfl (Nat.le_of_ble_eq_true rfl) dX4_finish_15 (fun H locs hP hD hS => ?_)
    have hP : va_P (dC, dI) vwCl (CWl a k LP N L f1 p2 p1 f4 f5 f6 f7 f8 rd f10 f11 f12 n f14 lf wd ho ro pa rs E) H := hP
    have hD : va_D A (CWl a k LP N L f1 p2 p1 f4 f5 f6 f7 f8 rd f10 f11 f12 n f14 lf wd ho ro pa rs E) := hD
    refine lv_iload_n hx hb dX4_finish_18 rfl (lv_at hl 1 rfl) ?_
    refine lv_if_eq (tgt := 32) hx hb dX4_finish_19 (by decide) (fun c_19_1 => ?_) (fun c_19_1 => ?_)
    · exact absurd c_19_1 c_7_0
    · refine lv_aload_n hx hb dX4_finish_22 rfl (lv_at hl 0 rfl) ?_
      refine lv_dup hx hb dX4_finish_23 rfl ?_
      refine va_get (D := (dC, dI)) (ci := 4) (v := .int f7) (C := RX4) (T := TX4) (N := 12) hx hb hta inA_X4 hown hK hP 0 rfl rfl 11 (by decide) (hta _ aw_183) (fun _ h9 => h9) rfl dX4_finish_24 ?_
      refine lv_iconst (v := 1) hx hb dX4_finish_27 (by decide) ?_
      refine lv_iadd hx hb dX4_finish_28 ?_
      refine va_put (D := (dC, dI)) (ci := 4) (v := .int (f7 + (1 : Int32))) (ty := .int) (C := RX4) (T := TX4) (N := 12) hx hb hta inA_X4 tyX4 tyX4_ok nmX4 hown hK hP hD hS 0 rfl rfl 11 (by decide) (hta _ aw_183) (fun _ h9 => h9) rfl (by decide +kernel) rfl rfl (Nat.le_of_ble_eq_true rfl) dX4_finish_29 (fun H locs hP hD hS => ?_)
      have hP : va_P (dC, dI) vwCl (CWl a k LP N L f1 p2 p1 f4 f5 f6 (f7 + (1 : Int32)) f8 rd f10 f11 f12 n f14 lf wd ho ro pa rs E) H := hP
      have hD : va_D A (CWl a k LP N L f1 p2 p1 f4 f5 f6 (f7 + (1 : Int32)) f8 rd f10 f11 f12 n f14 lf wd ho ro pa rs E) := hD
      refine lv_iload_n hx hb dX4_finish_32 rfl (lv_at hl 1 rfl) ?_
      exact W.iret (v := p0) hx hb hr (fun t ht hW => ⟨⟨p0, (p2, p1, f7 + (1 : Int32)), rfl, (by unfold mX4_finish; rewrite [if_neg c_7_0]; (first | done | rfl)), by rw [ht]; exact hP, va_K.moved hW.alike hK, hD⟩, hS.F ht⟩) hS.2.2 dX4_finish_33
  · refine lv_iconst (v := (-1)) hx hb dX4_finish_10 (by decide) ?_
    refine lv_goto (tgt := 15) hx hb dX4_finish_11 (by decide) ?_
    refine va_put (D := (dC, dI)) (ci := 4) (v := .int (-1 : Int32)) (ty := .int) (C := RX4) (T := TX4) (N := 12) hx hb hta inA_X4 tyX4 tyX4_ok nmX4 hown hK hP hD hS 0 rfl rfl 7 (by decide) (hta _ aw_179) (fun _ h9 => h9) rfl (by decide +kernel) rfl rfl (Nat.le_of_ble_eq_true rfl) dX4_finish_15 (fun H locs hP hD hS => ?_)
    have hP : va_P (dC, dI) vwCl (CWl a k LP N L f1 p2 (-1 : Int32) f4 f5 f6 f7 f8 rd f10 f11 f12 n f14 lf wd ho ro pa rs E) H := hP
    have hD : va_D A (CWl a k LP N L f1 p2 (-1 : Int32) f4 f5 f6 f7 f8 rd f10 f11 f12 n f14 lf wd ho ro pa rs E) := hD
    refine lv_iload_n hx hb dX4_finish_18 rfl (lv_at hl 1 rfl) ?_
    refine lv_if_eq (tgt := 32) hx hb dX4_finish_19 (by decide) (fun c_19_2 => ?_) (fun c_19_2 => ?_)
    · refine lv_iload_n hx hb dX4_finish_32 rfl (lv_at hl 1 rfl) ?_
      exact W.iret (v := p0) hx hb hr (fun t ht hW => ⟨⟨p0, (p2, (-1 : Int32), f7), rfl, (by unfold mX4_finish; rewrite [if_pos c_7_0]; (first | done | rfl)), by rw [ht]; exact hP, va_K.moved hW.alike hK, hD⟩, hS.F ht⟩) hS.2.2 dX4_finish_33
    · exact absurd c_7_0 c_19_2
/-- PageRows.to -/
def mX4_to (f2 : Int32) : Int32 :=
  f2
set_option maxHeartbeats 4000000 in
set_option maxRecDepth 100000 in
theorem c_X4_to (l : Launch) (dC : Nat → ClassId) (dI : Nat → Nat → Nat) (a : Nat → Nat) (k : Nat → ClassId) (LP : List Nat) (N : Nat) (L : Nat) (f1 f2 f3 f4 f5 f6 f7 f8 : Int32) (rd : Nat) (f10 f11 f12 : Int32) (n : Nat) (f14 : Int32) (lf : Int64) (wd : Nat → Int64) (ho ro pa : Nat → Int32) (rs : Nat → Option Nat) (E : Nat → Nat → Int32)    : Met l yX4_to (wX4_to :: AW) ({ frames := 0, cells := 0, slots := 0, locals := 0 }) (va_Pc [.ref (a 0)] (CPre dC dI (CWl a k LP N L f1 f2 f3 f4 f5 f6 f7 f8 rd f10 f11 f12 n f14 lf wd ho ro pa rs E) [(k 0, .long), (k 1, .int), (k 2, .int), (k 3, .object "PageRows$Entry"), (k 4, .int)])) (vp_Si (fun r => r = mX4_to f2)) 0 0 (fun _ => False) := by
  refine cx_of (cc := cX4_to) (maxL := 1) (ret := some .int) (by decide) rfl (Nat.le_of_ble_eq_true rfl) ?_
  intro p e s m below meth c ls hx hb hr hts hown hlocks hml hnm hl hB
  have hta : ∀ w ∈ AW, w.before [.ref (a 0)].toArray s = true := fun w h => hts w (List.mem_cons_of_mem _ h)
  have hl : lv_has ls 1 [(0, .ref (a 0))] := hl
  have hown : s.vm.findClass RX4 = some m.cls := hown
  obtain ⟨hP, hK, hN⟩ := hB
  refine lv_aload_n hx hb dX4_to_0 rfl (lv_at hl 0 rfl) ?_
  refine va_get (D := (dC, dI)) (ci := 4) (v := .int f2) (C := RX4) (T := TX4) (N := 12) hx hb hta inA_X4 hown hK hP 0 rfl rfl 6 (by decide) (hta _ aw_178) (fun _ h9 => h9) rfl dX4_to_1 ?_
  exact W.iret (v := f2) hx hb hr (fun t ht hW => ⟨f2, rfl, (by unfold mX4_to; (first | done | rfl)), ht⟩) (fun q h => nomatch h) dX4_to_4
/-- PageRows.level -/
def mX4_level (f3 : Int32) : Int32 :=
  f3
set_option maxHeartbeats 4000000 in
set_option maxRecDepth 100000 in
theorem c_X4_level (l : Launch) (dC : Nat → ClassId) (dI : Nat → Nat → Nat) (a : Nat → Nat) (k : Nat → ClassId) (LP : List Nat) (N : Nat) (L : Nat) (f1 f2 f3 f4 f5 f6 f7 f8 : Int32) (rd : Nat) (f10 f11 f12 : Int32) (n : Nat) (f14 : Int32) (lf : Int64) (wd : Nat → Int64) (ho ro pa : Nat → Int32) (rs : Nat → Option Nat) (E : Nat → Nat → Int32)    : Met l yX4_level (wX4_level :: AW) ({ frames := 0, cells := 0, slots := 0, locals := 0 }) (va_Pc [.ref (a 0)] (CPre dC dI (CWl a k LP N L f1 f2 f3 f4 f5 f6 f7 f8 rd f10 f11 f12 n f14 lf wd ho ro pa rs E) [(k 0, .long), (k 1, .int), (k 2, .int), (k 3, .object "PageRows$Entry"), (k 4, .int)])) (vp_Si (fun r => r = mX4_level f3)) 0 0 (fun _ => False) := by
  refine cx_of (cc := cX4_level) (maxL := 1) (ret := some .int) (by decide) rfl (Nat.le_of_ble_eq_true rfl) ?_
  intro p e s m below meth c ls hx hb hr hts hown hlocks hml hnm hl hB
  have hta : ∀ w ∈ AW, w.before [.ref (a 0)].toArray s = true := fun w h => hts w (List.mem_cons_of_mem _ h)
  have hl : lv_has ls 1 [(0, .ref (a 0))] := hl
  have hown : s.vm.findClass RX4 = some m.cls := hown
  obtain ⟨hP, hK, hN⟩ := hB
  refine lv_aload_n hx hb dX4_level_0 rfl (lv_at hl 0 rfl) ?_
  refine va_get (D := (dC, dI)) (ci := 4) (v := .int f3) (C := RX4) (T := TX4) (N := 12) hx hb hta inA_X4 hown hK hP 0 rfl rfl 7 (by decide) (hta _ aw_179) (fun _ h9 => h9) rfl dX4_level_1 ?_
  exact W.iret (v := f3) hx hb hr (fun t ht hW => ⟨f3, rfl, (by unfold mX4_level; (first | done | rfl)), ht⟩) (fun q h => nomatch h) dX4_level_4
/-- PageRows.count -/
def mX4_count (N : Nat) (L : Nat) (f1 : Int32) (f4 : Int32) (f5 : Int32) (f6 : Int32) (f7 : Int32) (n : Nat) (f14 : Int32) (p0 : Int32) : Int32 :=
  if p0 = 0 then
    nI L
  else
    if p0 = 1 then
      nI N
    else
      if p0 = 2 then
        nI n
      else
        if p0 = 3 then
          f1
        else
          if p0 = 4 then
            f4
          else
            if p0 = 5 then
              f5
            else
              if p0 = 6 then
                f6
              else
                if p0 = 7 then
                  f7
                else
                  if p0 = 8 then
                    f14
                  else
                    (-1 : Int32)
set_option maxHeartbeats 4000000 in
set_option maxRecDepth 100000 in
theorem c_X4_count (l : Launch) (dC : Nat → ClassId) (dI : Nat → Nat → Nat) (a : Nat → Nat) (k : Nat → ClassId) (LP : List Nat) (N : Nat) (L : Nat) (f1 f2 f3 f4 f5 f6 f7 f8 : Int32) (rd : Nat) (f10 f11 f12 : Int32) (n : Nat) (f14 : Int32) (lf : Int64) (wd : Nat → Int64) (ho ro pa : Nat → Int32) (rs : Nat → Option Nat) (E : Nat → Nat → Int32)  (p0 : Int32)  : Met l yX4_count (wX4_count :: AW) ({ frames := 0, cells := 0, slots := 0, locals := 0 }) (va_Pc [.ref (a 0), .int p0] (CPre dC dI (CWl a k LP N L f1 f2 f3 f4 f5 f6 f7 f8 rd f10 f11 f12 n f14 lf wd ho ro pa rs E) [(k 0, .long), (k 1, .int), (k 2, .int), (k 3, .object "PageRows$Entry"), (k 4, .int)])) (vp_Si (fun r => r = mX4_count N L f1 f4 f5 f6 f7 n f14 p0)) 0 0 (fun _ => False) := by
  refine cx_of (cc := cX4_count) (maxL := 2) (ret := some .int) (by decide) rfl (Nat.le_of_ble_eq_true rfl) ?_
  intro p e s m below meth c ls hx hb hr hts hown hlocks hml hnm hl hB
  have hta : ∀ w ∈ AW, w.before [.ref (a 0), .int p0].toArray s = true := fun w h => hts w (List.mem_cons_of_mem _ h)
  have hl : lv_has ls 2 [(0, .ref (a 0)), (1, .int p0)] := hl
  have hown : s.vm.findClass RX4 = some m.cls := hown
  obtain ⟨hP, hK, hN⟩ := hB
  refine lv_iload_n hx hb dX4_count_0 rfl (lv_at hl 1 rfl) ?_
  by_cases c_sw_0 : p0 = 0
  · refine lv_tableIn (tgt := 52) hx hb dX4_count_1 (by rw [c_sw_0]; decide) (by rw [c_sw_0]; decide) (by rw [c_sw_0]; rfl) (by decide) ?_
    refine lv_aload_n hx hb dX4_count_52 rfl (lv_at hl 0 rfl) ?_
    refine va_get (D := (dC, dI)) (ci := 4) (v := .int (nI L)) (C := RX4) (T := TX4) (N := 12) hx hb hta inA_X4 hown hK hP 0 rfl rfl 0 (by decide) (hta _ aw_172) (fun _ h9 => h9) rfl dX4_count_53 ?_
    exact W.iret (v := nI L) hx hb hr (fun t ht hW => ⟨nI L, rfl, (by unfold mX4_count; rewrite [if_pos c_sw_0]; (first | done | rfl)), ht⟩) (fun q h => nomatch h) dX4_count_56
  · by_cases c_sw_1 : p0 = 1
    · refine lv_tableIn (tgt := 57) hx hb dX4_count_1 (by rw [c_sw_1]; decide) (by rw [c_sw_1]; decide) (by rw [c_sw_1]; rfl) (by decide) ?_
      refine lv_aload_n hx hb dX4_count_57 rfl (lv_at hl 0 rfl) ?_
      refine va_get (D := (dC, dI)) (ci := 4) (v := .ref (a 6)) (C := RX4) (T := TX4) (N := 12) hx hb hta inA_X4 hown hK hP 0 rfl rfl 3 (by decide) (hta _ aw_175) (fun _ h9 => h9) rfl dX4_count_58 ?_
      refine va_getN (D := (dC, dI)) (ci := 0) (v := .ref (a 7)) (C := RX0) (T := TX0) (N := 3) hx hb hta inA_X0 hown hK hP 6 rfl rfl 0 (by decide) (hN.nf 21 rfl) (fun _ h9 => h9) rfl dX4_count_61 ?_
      refine va_alen (v := nI N) hx hb hK hP 7 3 rfl rfl rfl dX4_count_64 ?_
      exact W.iret (v := nI N) hx hb hr (fun t ht hW => ⟨nI N, rfl, (by unfold mX4_count; rewrite [if_neg c_sw_0]; rewrite [if_pos c_sw_1]; (first | done | rfl)), ht⟩) (fun q h => nomatch h) dX4_count_65
    · by_cases c_sw_2 : p0 = 2
      · refine lv_tableIn (tgt := 66) hx hb dX4_count_1 (by rw [c_sw_2]; decide) (by rw [c_sw_2]; decide) (by rw [c_sw_2]; rfl) (by decide) ?_
        refine lv_aload_n hx hb dX4_count_66 rfl (lv_at hl 0 rfl) ?_
        refine va_get (D := (dC, dI)) (ci := 4) (v := .ref (a 6)) (C := RX4) (T := TX4) (N := 12) hx hb hta inA_X4 hown hK hP 0 rfl rfl 3 (by decide) (hta _ aw_175) (fun _ h9 => h9) rfl dX4_count_67 ?_
        refine va_getN (D := (dC, dI)) (ci := 0) (v := .int (nI n)) (C := RX0) (T := TX0) (N := 3) hx hb hta inA_X0 hown hK hP 6 rfl rfl 1 (by decide) (hN.nf 22 rfl) (fun _ h9 => h9) rfl dX4_count_70 ?_
        exact W.iret (v := nI n) hx hb hr (fun t ht hW => ⟨nI n, rfl, (by unfold mX4_count; rewrite [if_neg c_sw_0]; rewrite [if_neg c_sw_1]; rewrite [if_pos c_sw_2]; (first | done | rfl)), ht⟩) (fun q h => nomatch h) dX4_count_73
      · by_cases c_sw_3 : p0 = 3
        · refine lv_tableIn (tgt := 74) hx hb dX4_count_1 (by rw [c_sw_3]; decide) (by rw [c_sw_3]; decide) (by rw [c_sw_3]; rfl) (by decide) ?_
          refine lv_aload_n hx hb dX4_count_74 rfl (lv_at hl 0 rfl) ?_
          refine va_get (D := (dC, dI)) (ci := 4) (v := .int f1) (C := RX4) (T := TX4) (N := 12) hx hb hta inA_X4 hown hK hP 0 rfl rfl 5 (by decide) (hta _ aw_177) (fun _ h9 => h9) rfl dX4_count_75 ?_
          exact W.iret (v := f1) hx hb hr (fun t ht hW => ⟨f1, rfl, (by unfold mX4_count; rewrite [if_neg c_sw_0]; rewrite [if_neg c_sw_1]; rewrite [if_neg c_sw_2]; rewrite [if_pos c_sw_3]; (first | done | rfl)), ht⟩) (fun q h => nomatch h) dX4_count_78
        · by_cases c_sw_4 : p0 = 4
          · refine lv_tableIn (tgt := 79) hx hb dX4_count_1 (by rw [c_sw_4]; decide) (by rw [c_sw_4]; decide) (by rw [c_sw_4]; rfl) (by decide) ?_
            refine lv_aload_n hx hb dX4_count_79 rfl (lv_at hl 0 rfl) ?_
            refine va_get (D := (dC, dI)) (ci := 4) (v := .int f4) (C := RX4) (T := TX4) (N := 12) hx hb hta inA_X4 hown hK hP 0 rfl rfl 8 (by decide) (hta _ aw_180) (fun _ h9 => h9) rfl dX4_count_80 ?_
            exact W.iret (v := f4) hx hb hr (fun t ht hW => ⟨f4, rfl, (by unfold mX4_count; rewrite [if_neg c_sw_0]; rewrite [if_neg c_sw_1]; rewrite [if_neg c_sw_2]; rewrite [if_neg c_sw_3]; rewrite [if_pos c_sw_4]; (first | done | rfl)), ht⟩) (fun q h => nomatch h) dX4_count_83
          · by_cases c_sw_5 : p0 = 5
            · refine lv_tableIn (tgt := 84) hx hb dX4_count_1 (by rw [c_sw_5]; decide) (by rw [c_sw_5]; decide) (by rw [c_sw_5]; rfl) (by decide) ?_
              refine lv_aload_n hx hb dX4_count_84 rfl (lv_at hl 0 rfl) ?_
              refine va_get (D := (dC, dI)) (ci := 4) (v := .int f5) (C := RX4) (T := TX4) (N := 12) hx hb hta inA_X4 hown hK hP 0 rfl rfl 9 (by decide) (hta _ aw_181) (fun _ h9 => h9) rfl dX4_count_85 ?_
              exact W.iret (v := f5) hx hb hr (fun t ht hW => ⟨f5, rfl, (by unfold mX4_count; rewrite [if_neg c_sw_0]; rewrite [if_neg c_sw_1]; rewrite [if_neg c_sw_2]; rewrite [if_neg c_sw_3]; rewrite [if_neg c_sw_4]; rewrite [if_pos c_sw_5]; (first | done | rfl)), ht⟩) (fun q h => nomatch h) dX4_count_88
            · by_cases c_sw_6 : p0 = 6
              · refine lv_tableIn (tgt := 89) hx hb dX4_count_1 (by rw [c_sw_6]; decide) (by rw [c_sw_6]; decide) (by rw [c_sw_6]; rfl) (by decide) ?_
                refine lv_aload_n hx hb dX4_count_89 rfl (lv_at hl 0 rfl) ?_
                refine va_get (D := (dC, dI)) (ci := 4) (v := .int f6) (C := RX4) (T := TX4) (N := 12) hx hb hta inA_X4 hown hK hP 0 rfl rfl 10 (by decide) (hta _ aw_182) (fun _ h9 => h9) rfl dX4_count_90 ?_
                exact W.iret (v := f6) hx hb hr (fun t ht hW => ⟨f6, rfl, (by unfold mX4_count; rewrite [if_neg c_sw_0]; rewrite [if_neg c_sw_1]; rewrite [if_neg c_sw_2]; rewrite [if_neg c_sw_3]; rewrite [if_neg c_sw_4]; rewrite [if_neg c_sw_5]; rewrite [if_pos c_sw_6]; (first | done | rfl)), ht⟩) (fun q h => nomatch h) dX4_count_93
              · by_cases c_sw_7 : p0 = 7
                · refine lv_tableIn (tgt := 94) hx hb dX4_count_1 (by rw [c_sw_7]; decide) (by rw [c_sw_7]; decide) (by rw [c_sw_7]; rfl) (by decide) ?_
                  refine lv_aload_n hx hb dX4_count_94 rfl (lv_at hl 0 rfl) ?_
                  refine va_get (D := (dC, dI)) (ci := 4) (v := .int f7) (C := RX4) (T := TX4) (N := 12) hx hb hta inA_X4 hown hK hP 0 rfl rfl 11 (by decide) (hta _ aw_183) (fun _ h9 => h9) rfl dX4_count_95 ?_
                  exact W.iret (v := f7) hx hb hr (fun t ht hW => ⟨f7, rfl, (by unfold mX4_count; rewrite [if_neg c_sw_0]; rewrite [if_neg c_sw_1]; rewrite [if_neg c_sw_2]; rewrite [if_neg c_sw_3]; rewrite [if_neg c_sw_4]; rewrite [if_neg c_sw_5]; rewrite [if_neg c_sw_6]; rewrite [if_pos c_sw_7]; (first | done | rfl)), ht⟩) (fun q h => nomatch h) dX4_count_98
                · by_cases c_sw_8 : p0 = 8
                  · refine lv_tableIn (tgt := 99) hx hb dX4_count_1 (by rw [c_sw_8]; decide) (by rw [c_sw_8]; decide) (by rw [c_sw_8]; rfl) (by decide) ?_
                    refine lv_aload_n hx hb dX4_count_99 rfl (lv_at hl 0 rfl) ?_
                    refine va_get (D := (dC, dI)) (ci := 4) (v := .ref (a 6)) (C := RX4) (T := TX4) (N := 12) hx hb hta inA_X4 hown hK hP 0 rfl rfl 3 (by decide) (hta _ aw_175) (fun _ h9 => h9) rfl dX4_count_100 ?_
                    refine va_getN (D := (dC, dI)) (ci := 0) (v := .int f14) (C := RX0) (T := TX0) (N := 3) hx hb hta inA_X0 hown hK hP 6 rfl rfl 2 (by decide) (hN.nf 23 rfl) (fun _ h9 => h9) rfl dX4_count_103 ?_
                    exact W.iret (v := f14) hx hb hr (fun t ht hW => ⟨f14, rfl, (by unfold mX4_count; rewrite [if_neg c_sw_0]; rewrite [if_neg c_sw_1]; rewrite [if_neg c_sw_2]; rewrite [if_neg c_sw_3]; rewrite [if_neg c_sw_4]; rewrite [if_neg c_sw_5]; rewrite [if_neg c_sw_6]; rewrite [if_neg c_sw_7]; rewrite [if_pos c_sw_8]; (first | done | rfl)), ht⟩) (fun q h => nomatch h) dX4_count_106
                  · refine lv_tableOut (tgt := 107) hx hb dX4_count_1 (cx_swout (x := p0) 8 (by decide) (fun j hj => match j, hj with | 0, _ => c_sw_0 | 1, _ => c_sw_1 | 2, _ => c_sw_2 | 3, _ => c_sw_3 | 4, _ => c_sw_4 | 5, _ => c_sw_5 | 6, _ => c_sw_6 | 7, _ => c_sw_7 | 8, _ => c_sw_8 | q + 9, h => absurd h (by omega))) (by decide) ?_
                    refine lv_iconst (v := (-1)) hx hb dX4_count_107 (by decide) ?_
                    exact W.iret (v := (-1 : Int32)) hx hb hr (fun t ht hW => ⟨(-1 : Int32), rfl, (by unfold mX4_count; rewrite [if_neg c_sw_0]; rewrite [if_neg c_sw_1]; rewrite [if_neg c_sw_2]; rewrite [if_neg c_sw_3]; rewrite [if_neg c_sw_4]; rewrite [if_neg c_sw_5]; rewrite [if_neg c_sw_6]; rewrite [if_neg c_sw_7]; rewrite [if_neg c_sw_8]; (first | done | rfl)), ht⟩) (fun q h => nomatch h) dX4_count_108
