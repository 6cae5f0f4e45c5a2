/-- PageRows$Entries.isMeant -/
def mX0_isMeant (E : Nat → Nat → Int32) (y0 : Nat) (p1 : Int32) (p2 : Int32) (p3 : Int32) : Int32 :=
  if p1 = 0 then
    (1 : Int32)
  else
    if p1 = 1 then
      if (E 0 y0) = p2 then
        (1 : Int32)
      else
        (0 : Int32)
    else
      mX1_standsFor E y0 p2 p3
set_option maxHeartbeats 4000000 in
set_option maxRecDepth 100000 in
theorem c_X0_isMeant (l : Launch) (dC : Nat → ClassId) (dI : Nat → Nat → Nat) (a : Nat → Nat) (k : Nat → ClassId) (LP : List Nat) (N : Nat) (L : Nat) (f1 f2 f3 f4 f5 f6 f7 f8 : Int32) (rd : Nat) (f10 f11 f12 : Int32) (n : Nat) (f14 : Int32) (lf : Int64) (wd : Nat → Int64) (ho ro pa : Nat → Int32) (rs : Nat → Option Nat) (E : Nat → Nat → Int32) (y0 : Nat) (hy0 : y0 ∈ LP) (p1 : Int32) (p2 : Int32) (p3 : Int32)  : Met l yX0_isMeant (wX0_isMeant :: AW) ({ frames := 2, cells := 0, slots := 0, locals := 42 }) (va_Pc [.ref y0, .int p1, .int p2, .int p3] (CPre dC dI (CWl a k LP N L f1 f2 f3 f4 f5 f6 f7 f8 rd f10 f11 f12 n f14 lf wd ho ro pa rs E) [(k 0, .long), (k 1, .int), (k 2, .int), (k 3, .object "PageRows$Entry"), (k 4, .int)])) (vp_Si (fun r => r = mX0_isMeant E y0 p1 p2 p3)) 0 0 (fun _ => False) := by
  refine cx_of (cc := cX0_isMeant) (maxL := 4) (ret := some .boolean) (by decide) rfl (Nat.le_of_ble_eq_true rfl) ?_
  intro p e s m below meth c ls hx hb hr hts hown hlocks hml hnm hl hB
  have hta : ∀ w ∈ AW, w.before [.ref y0, .int p1, .int p2, .int p3].toArray s = true := fun w h => hts w (List.mem_cons_of_mem _ h)
  have hl : lv_has ls 4 [(0, .ref y0), (1, .int p1), (2, .int p2), (3, .int p3)] := hl
  have hown : s.vm.findClass RX0 = some m.cls := hown
  obtain ⟨hP, hK, hN⟩ := hB
  refine lv_iload_n hx hb dX0_isMeant_0 rfl (lv_at hl 1 rfl) ?_
  by_cases c_sw_0 : p1 = 0
  · refine lv_lookup (tgt := 28) (off := 27) hx hb dX0_isMeant_1 (by decide) (by subst c_sw_0; rfl) (by decide) ?_
    refine lv_iconst (v := 1) hx hb dX0_isMeant_28 (by decide) ?_
    exact W.zret (ty := .boolean) (v := (1 : Int32)) hx hb hr rfl (fun t ht hW => ⟨(1 : Int32), rfl, (by unfold mX0_isMeant; rewrite [if_pos c_sw_0]; (first | done | rfl)), ht⟩) (fun q h => nomatch h) dX0_isMeant_29
  · by_cases c_sw_1 : p1 = 1
    · refine lv_lookup (tgt := 30) (off := 29) hx hb dX0_isMeant_1 (by decide) (by subst c_sw_1; rfl) (by decide) ?_
      refine lv_aload_n hx hb dX0_isMeant_30 rfl (lv_at hl 0 rfl) ?_
      obtain ⟨k_1, hk_1⟩ := va_pl_get (X := (CWx a k N L f1 f2 f3 f4 f5 f6 f7 f8 rd f10 f11 f12 n f14 lf wd ho ro pa rs)) (f := (CEf E)) hy0
      refine va_getN (D := (dC, dI)) (ci := 1) (v := .int (E 0 y0)) (C := RX1) (T := TX1) (N := 6) hx hb hta inA_X1 hown hK hP k_1 hk_1 rfl 0 (by decide) (hN.nf 9 rfl) (fun _ h9 => h9) rfl dX0_isMeant_31 ?_
      refine lv_iload_n hx hb dX0_isMeant_34 rfl (lv_at hl 2 rfl) ?_
      refine lv_icmp_ne (tgt := 42) hx hb dX0_isMeant_35 (by decide) (fun c_35_1 => ?_) (fun c_35_1 => ?_)
      · refine lv_iconst (v := 0) hx hb dX0_isMeant_42 (by decide) ?_
        exact W.zret (ty := .boolean) (v := (0 : Int32)) hx hb hr rfl (fun t ht hW => ⟨(0 : Int32), rfl, (by unfold mX0_isMeant; rewrite [if_neg c_sw_0]; rewrite [if_pos c_sw_1]; rewrite [if_neg c_35_1]; (first | done | rfl)), ht⟩) (fun q h => nomatch h) dX0_isMeant_43
      · refine lv_iconst (v := 1) hx hb dX0_isMeant_38 (by decide) ?_
        refine lv_goto (tgt := 43) hx hb dX0_isMeant_39 (by decide) ?_
        exact W.zret (ty := .boolean) (v := (1 : Int32)) hx hb hr rfl (fun t ht hW => ⟨(1 : Int32), rfl, (by unfold mX0_isMeant; rewrite [if_neg c_sw_0]; rewrite [if_pos c_sw_1]; rewrite [if_pos c_35_1]; (first | done | rfl)), ht⟩) (fun q h => nomatch h) dX0_isMeant_43
    · refine lv_lookup (tgt := 44) (off := 43) hx hb dX0_isMeant_1 (by decide) (by show Op.lookupswitch.offset [(0, 27), (1, 29)] 43 _ = 43; rw [lv_osw (k := 0) (a := 0) c_sw_0 (by decide)]; rw [lv_osw (k := 1) (a := 1) c_sw_1 (by decide)]; rfl) (by decide) ?_
      refine lv_aload_n hx hb dX0_isMeant_44 rfl (lv_at hl 0 rfl) ?_
      refine lv_iload_n hx hb dX0_isMeant_45 rfl (lv_at hl 2 rfl) ?_
      refine lv_iload_n hx hb dX0_isMeant_46 rfl (lv_at hl 3 rfl) ?_
      refine cx_callSi (va_runVN (As := [.int p2, .int p3]) (rest := []) ⟨hx, hb, hml, hown, hta⟩ (c_X1_standsFor l dC dI a k LP N L f1 f2 f3 f4 f5 f6 f7 f8 rd f10 f11 f12 n f14 lf wd ho ro pa rs E y0 hy0 p2 p3) ⟨va_cnB 2 hta (gC aw_369) rfl rfl rfl (hN.nm 5 rfl) (hta _ aw_42) (by decide +kernel) ⟨Nat.le_of_ble_eq_true rfl, Nat.le_of_ble_eq_true rfl⟩, (hta _ aw_368), (hta _ aw_2)⟩ (cx_preVS hK hP hN (cx_recvP (ci := 1) hK hP hy0 rfl rfl)) rfl rfl hl.1 rfl (lv_room (Nat.le_of_ble_eq_true rfl)) dX0_isMeant_47 ⟨Nat.le_of_ble_eq_true rfl, Nat.le_of_ble_eq_true rfl⟩) (fun r hw_3 => ?_)
      subst hw_3
      exact W.zret (ty := .boolean) (v := mX1_standsFor E y0 p2 p3) hx hb hr (mX1_standsFor_z E y0 p2 p3) (fun t ht hW => ⟨mX1_standsFor E y0 p2 p3, rfl, (by unfold mX0_isMeant; rewrite [if_neg c_sw_0]; rewrite [if_neg c_sw_1]; (first | done | rfl)), ht⟩) (fun q h => nomatch h) dX0_isMeant_50
theorem mX0_isMeant_z (E : Nat → Nat → Int32) (y0 : Nat) (p1 : Int32) (p2 : Int32) (p3 : Int32) : narrow .boolean (.int (mX0_isMeant E y0 p1 p2 p3)) = .int (mX0_isMeant E y0 p1 p2 p3) := by
  unfold mX0_isMeant
  repeat' split
  all_goals first | rfl | exact mX1_standsFor_z _ _ _ _
/-- PageRows.needsChangedMark -/
def mX4_needsChangedMark (E : Nat → Nat → Int32) (y0 : Nat) (p1 : Int32) : Int32 :=
  if (mX4_isWrite p1) = 0 then
    (0 : Int32)
  else
    if (E 5 y0) = 0 then
      if (mX4_allows (E 4 y0) p1) = 0 then
        (0 : Int32)
      else
        (1 : Int32)
    else
      (0 : Int32)
set_option maxHeartbeats 4000000 in
set_option maxRecDepth 100000 in
theorem c_X4_needsChangedMark (l : Launch) (dC : Nat → ClassId) (dI : Nat → Nat → Nat) (a : Nat → Nat) (k : Nat → ClassId) (LP : List Nat) (N : Nat) (L : Nat) (f1 f2 f3 f4 f5 f6 f7 f8 : Int32) (rd : Nat) (f10 f11 f12 : Int32) (n : Nat) (f14 : Int32) (lf : Int64) (wd : Nat → Int64) (ho ro pa : Nat → Int32) (rs : Nat → Option Nat) (E : Nat → Nat → Int32) (y0 : Nat) (hy0 : y0 ∈ LP) (p1 : Int32)  : Met l yX4_needsChangedMark (wX4_needsChangedMark :: AW) ({ frames := 1, cells := 0, slots := 0, locals := 23 }) (va_Pc [.ref y0, .int p1] (CPre dC dI (CWl a k LP N L f1 f2 f3 f4 f5 f6 f7 f8 rd f10 f11 f12 n f14 lf wd ho ro pa rs E) [(k 0, .long), (k 1, .int), (k 2, .int), (k 3, .object "PageRows$Entry"), (k 4, .int)])) (vp_Si (fun r => r = mX4_needsChangedMark E y0 p1)) 0 0 (fun _ => False) := by
  refine cx_of (cc := cX4_needsChangedMark) (maxL := 2) (ret := some .boolean) (by decide) rfl (Nat.le_of_ble_eq_true rfl) ?_
  intro p e s m below meth c ls hx hb hr hts hown hlocks hml hnm hl hB
  have hta : ∀ w ∈ AW, w.before [.ref y0, .int p1].toArray s = true := fun w h => hts w (List.mem_cons_of_mem _ h)
  have hl : lv_has ls 2 [(0, .ref y0), (1, .int p1)] := hl
  have hown : s.vm.findClass RX4 = some m.cls := hown
  obtain ⟨hP, hK, hN⟩ := hB
  refine lv_iload_n hx hb dX4_needsChangedMark_0 rfl (lv_at hl 1 rfl) ?_
  refine cx_callSi (va_runS (As := [.int p1]) (rest := []) ⟨hx, hb, hml, hown, hta⟩ (c_X4_isWrite l p1) (va_cwS 1 hta (gS aw_376 aw_377 aw_38 aw_378) rfl rfl rfl (by decide +kernel) ⟨Nat.le_of_ble_eq_true rfl, Nat.le_of_ble_eq_true rfl⟩) cx_pre0 rfl rfl hl.1 rfl (lv_room (Nat.le_of_ble_eq_true rfl)) dX4_needsChangedMark_1 ⟨Nat.le_of_ble_eq_true rfl, Nat.le_of_ble_eq_true rfl⟩) (fun r hw_1 => ?_)
  subst hw_1
  refine lv_if_eq (tgt := 29) hx hb dX4_needsChangedMark_4 (by decide) (fun c_4_1 => ?_) (fun c_4_1 => ?_)
  · refine lv_iconst (v := 0) hx hb dX4_needsChangedMark_29 (by decide) ?_
    exact W.zret (ty := .boolean) (v := (0 : Int32)) hx hb hr rfl (fun t ht hW => ⟨(0 : Int32), rfl, (by unfold mX4_needsChangedMark; rewrite [if_pos c_4_1]; (first | done | rfl)), ht⟩) (fun q h => nomatch h) dX4_needsChangedMark_30
  · refine lv_aload_n hx hb dX4_needsChangedMark_7 rfl (lv_at hl 0 rfl) ?_
    obtain ⟨k_3, hk_3⟩ := va_pl_get (X := (CWx a k N L f1 f2 f3 f4 f5 f6 f7 f8 rd f10 f11 f12 n f14 lf wd ho ro pa rs)) (f := (CEf E)) hy0
    refine va_getN (D := (dC, dI)) (ci := 1) (v := .int (E 5 y0)) (C := RX1) (T := TX1) (N := 6) hx hb hta inA_X1 hown hK hP k_3 hk_3 rfl 5 (by decide) (hN.nf 20 rfl) (fun _ h9 => h9) rfl dX4_needsChangedMark_8 ?_
    refine lv_if_ne (tgt := 29) hx hb dX4_needsChangedMark_11 (by decide) (fun c_11_3 => ?_) (fun c_11_3 => ?_)
    · refine lv_iconst (v := 0) hx hb dX4_needsChangedMark_29 (by decide) ?_
      exact W.zret (ty := .boolean) (v := (0 : Int32)) hx hb hr rfl (fun t ht hW => ⟨(0 : Int32), rfl, (by unfold mX4_needsChangedMark; rewrite [if_neg c_4_1]; rewrite [if_neg c_11_3]; (first | done | rfl)), ht⟩) (fun q h => nomatch h) dX4_needsChangedMark_30
    · refine lv_aload_n hx hb dX4_needsChangedMark_14 rfl (lv_at hl 0 rfl) ?_
      obtain ⟨k_5, hk_5⟩ := va_pl_get (X := (CWx a k N L f1 f2 f3 f4 f5 f6 f7 f8 rd f10 f11 f12 n f14 lf wd ho ro pa rs)) (f := (CEf E)) hy0
      refine va_getN (D := (dC, dI)) (ci := 1) (v := .int (E 4 y0)) (C := RX1) (T := TX1) (N := 6) hx hb hta inA_X1 hown hK hP k_5 hk_5 rfl 4 (by decide) (hN.nf 18 rfl) (fun _ h9 => h9) rfl dX4_needsChangedMark_15 ?_
      refine lv_iload_n hx hb dX4_needsChangedMark_18 rfl (lv_at hl 1 rfl) ?_
      refine cx_callSi (va_runS (As := [.int (E 4 y0), .int p1]) (rest := []) ⟨hx, hb, hml, hown, hta⟩ (c_X4_allows l (E 4 y0) p1) (va_cwS 2 hta (gS aw_379 aw_380 aw_38 aw_381) rfl rfl rfl (by decide +kernel) ⟨Nat.le_of_ble_eq_true rfl, Nat.le_of_ble_eq_true rfl⟩) cx_pre0 rfl rfl hl.1 rfl (lv_room (Nat.le_of_ble_eq_true rfl)) dX4_needsChangedMark_19 ⟨Nat.le_of_ble_eq_true rfl, Nat.le_of_ble_eq_true rfl⟩) (fun r hw_6 => ?_)
      subst hw_6
      refine lv_if_eq (tgt := 29) hx hb dX4_needsChangedMark_22 (by decide) (fun c_22_6 => ?_) (fun c_22_6 => ?_)
      · refine lv_iconst (v := 0) hx hb dX4_needsChangedMark_29 (by decide) ?_
        exact W.zret (ty := .boolean) (v := (0 : Int32)) hx hb hr rfl (fun t ht hW => ⟨(0 : Int32), rfl, (by unfold mX4_needsChangedMark; rewrite [if_neg c_4_1]; rewrite [if_pos c_11_3]; rewrite [if_pos c_22_6]; (first | done | rfl)), ht⟩) (fun q h => nomatch h) dX4_needsChangedMark_30
      · refine lv_iconst (v := 1) hx hb dX4_needsChangedMark_25 (by decide) ?_
        refine lv_goto (tgt := 30) hx hb dX4_needsChangedMark_26 (by decide) ?_
        exact W.zret (ty := .boolean) (v := (1 : Int32)) hx hb hr rfl (fun t ht hW => ⟨(1 : Int32), rfl, (by unfold mX4_needsChangedMark; rewrite [if_neg c_4_1]; rewrite [if_pos c_11_3]; rewrite [if_neg c_22_6]; (first | done | rfl)), ht⟩) (fun q h => nomatch h) dX4_needsChangedMark_30
theorem mX4_needsChangedMark_z (E : Nat → Nat → Int32) (y0 : Nat) (p1 : Int32) : narrow .boolean (.int (mX4_needsChangedMark E y0 p1)) = .int (mX4_needsChangedMark E y0 p1) := by
  unfold mX4_needsChangedMark
  repeat' split
  all_goals first | rfl | exact rfl
