/-- PageRows$Entry.standsFor -/
def mX1_standsFor (E : Nat → Nat → Int32) (y0 : Nat) (p0 : Int32) (p1 : Int32) : Int32 :=
  if (E 0 y0) = p0 then
    if (E 2 y0) = (jushr p1 (mX4_bitsBelow (E 1 y0))) then
      (1 : Int32)
    else
      (0 : Int32)
  else
    (0 : Int32)
set_option maxHeartbeats 4000000 in
set_option maxRecDepth 100000 in
theorem c_X1_standsFor (l : Launch) (dC : Nat → ClassId) (dI : Nat → Nat → Nat) (a : Nat → Nat) (k : Nat → ClassId) (LP : List Nat) (N : Nat) (L : Nat) (f1 f2 f3 f4 f5 f6 f7 f8 : Int32) (rd : Nat) (f10 f11 f12 : Int32) (n : Nat) (f14 : Int32) (lf : Int64) (wd : Nat → Int64) (ho ro pa : Nat → Int32) (rs : Nat → Option Nat) (E : Nat → Nat → Int32) (y0 : Nat) (hy0 : y0 ∈ LP) (p0 : Int32) (p1 : Int32)  : Met l yX1_standsFor (wX1_standsFor :: AW) ({ frames := 1, cells := 0, slots := 0, locals := 20 }) (va_Pc [.ref y0, .int p0, .int p1] (CPre dC dI (CWl a k LP N L f1 f2 f3 f4 f5 f6 f7 f8 rd f10 f11 f12 n f14 lf wd ho ro pa rs E) [(k 0, .long), (k 1, .int), (k 2, .int), (k 3, .object "PageRows$Entry"), (k 4, .int)])) (vp_Si (fun r => r = mX1_standsFor E y0 p0 p1)) 0 0 (fun _ => False) := by
  refine cx_of (cc := cX1_standsFor) (maxL := 3) (ret := some .boolean) (by decide) rfl (Nat.le_of_ble_eq_true rfl) ?_
  intro p e s m below meth c ls hx hb hr hts hown hlocks hml hnm hl hB
  have hta : ∀ w ∈ AW, w.before [.ref y0, .int p0, .int p1].toArray s = true := fun w h => hts w (List.mem_cons_of_mem _ h)
  have hl : lv_has ls 3 [(0, .ref y0), (1, .int p0), (2, .int p1)] := hl
  have hown : s.vm.findClass RX1 = some m.cls := hown
  obtain ⟨hP, hK, hN⟩ := hB
  refine lv_aload_n hx hb dX1_standsFor_0 rfl (lv_at hl 0 rfl) ?_
  obtain ⟨k_1, hk_1⟩ := va_pl_get (X := (CWx a k N L f1 f2 f3 f4 f5 f6 f7 f8 rd f10 f11 f12 n f14 lf wd ho ro pa rs)) (f := (CEf E)) hy0
  refine va_get (D := (dC, dI)) (ci := 1) (v := .int (E 0 y0)) (C := RX1) (T := TX1) (N := 6) hx hb hta inA_X1 hown hK hP k_1 hk_1 rfl 0 (by decide) (hta _ aw_128) (fun _ h9 => h9) rfl dX1_standsFor_1 ?_
  refine lv_iload_n hx hb dX1_standsFor_4 rfl (lv_at hl 1 rfl) ?_
  refine lv_icmp_ne (tgt := 28) hx hb dX1_standsFor_5 (by decide) (fun c_5_1 => ?_) (fun c_5_1 => ?_)
  · refine lv_iconst (v := 0) hx hb dX1_standsFor_28 (by decide) ?_
    exact W.zret (ty := .boolean) (v := (0 : Int32)) hx hb hr rfl (fun t ht hW => ⟨(0 : Int32), rfl, (by unfold mX1_standsFor; rewrite [if_neg c_5_1]; (first | done | rfl)), ht⟩) (fun q h => nomatch h) dX1_standsFor_29
  · refine lv_aload_n hx hb dX1_standsFor_8 rfl (lv_at hl 0 rfl) ?_
    obtain ⟨k_3, hk_3⟩ := va_pl_get (X := (CWx a k N L f1 f2 f3 f4 f5 f6 f7 f8 rd f10 f11 f12 n f14 lf wd ho ro pa rs)) (f := (CEf E)) hy0
    refine va_get (D := (dC, dI)) (ci := 1) (v := .int (E 2 y0)) (C := RX1) (T := TX1) (N := 6) hx hb hta inA_X1 hown hK hP k_3 hk_3 rfl 2 (by decide) (hta _ aw_134) (fun _ h9 => h9) rfl dX1_standsFor_9 ?_
    refine lv_iload_n hx hb dX1_standsFor_12 rfl (lv_at hl 2 rfl) ?_
    refine lv_aload_n hx hb dX1_standsFor_13 rfl (lv_at hl 0 rfl) ?_
    obtain ⟨k_4, hk_4⟩ := va_pl_get (X := (CWx a k N L f1 f2 f3 f4 f5 f6 f7 f8 rd f10 f11 f12 n f14 lf wd ho ro pa rs)) (f := (CEf E)) hy0
    refine va_get (D := (dC, dI)) (ci := 1) (v := .int (E 1 y0)) (C := RX1) (T := TX1) (N := 6) hx hb hta inA_X1 hown hK hP k_4 hk_4 rfl 1 (by decide) (hta _ aw_131) (fun _ h9 => h9) rfl dX1_standsFor_14 ?_
    refine cx_callSi (va_runSN (As := [.int (E 1 y0)]) (rest := [.int p1, .int (E 2 y0)]) ⟨hx, hb, hml, hown, hta⟩ (c_X4_bitsBelow l (E 1 y0)) ⟨va_cnB 1 hta (gC aw_372) rfl rfl rfl (hN.nm 6 rfl) (hta _ aw_38) (by decide +kernel) ⟨Nat.le_of_ble_eq_true rfl, Nat.le_of_ble_eq_true rfl⟩, (hta _ aw_371), trivial⟩ cx_pre0 rfl rfl hl.1 rfl (lv_room (Nat.le_of_ble_eq_true rfl)) dX1_standsFor_17 ⟨Nat.le_of_ble_eq_true rfl, Nat.le_of_ble_eq_true rfl⟩) (fun r hw_5 => ?_)
    subst hw_5
    refine lv_iushr (v := jushr p1 (mX4_bitsBelow (E 1 y0))) hx hb dX1_standsFor_20 rfl ?_
    refine lv_icmp_ne (tgt := 28) hx hb dX1_standsFor_21 (by decide) (fun c_21_5 => ?_) (fun c_21_5 => ?_)
    · refine lv_iconst (v := 0) hx hb dX1_standsFor_28 (by decide) ?_
      exact W.zret (ty := .boolean) (v := (0 : Int32)) hx hb hr rfl (fun t ht hW => ⟨(0 : Int32), rfl, (by unfold mX1_standsFor; rewrite [if_pos c_5_1]; rewrite [if_neg c_21_5]; (first | done | rfl)), ht⟩) (fun q h => nomatch h) dX1_standsFor_29
    · refine lv_iconst (v := 1) hx hb dX1_standsFor_24 (by decide) ?_
      refine lv_goto (tgt := 29) hx hb dX1_standsFor_25 (by decide) ?_
      exact W.zret (ty := .boolean) (v := (1 : Int32)) hx hb hr rfl (fun t ht hW => ⟨(1 : Int32), rfl, (by unfold mX1_standsFor; rewrite [if_pos c_5_1]; rewrite [if_pos c_21_5]; (first | done | rfl)), ht⟩) (fun q h => nomatch h) dX1_standsFor_29
theorem mX1_standsFor_z (E : Nat → Nat → Int32) (y0 : Nat) (p0 : Int32) (p1 : Int32) : narrow .boolean (.int (mX1_standsFor E y0 p0 p1)) = .int (mX1_standsFor E y0 p0 p1) := by
  unfold mX1_standsFor
  repeat' split
  all_goals first | rfl | exact rfl
/-- PageRows$Entry.part -/
def mX1_part (E : Nat → Nat → Int32) (y0 : Nat) (p0 : Int32) : Int32 :=
  if p0 = 0 then
    E 0 y0
  else
    if p0 = 1 then
      E 1 y0
    else
      if p0 = 2 then
        E 2 y0
      else
        if p0 = 3 then
          E 3 y0
        else
          if p0 = 4 then
            E 4 y0
          else
            if (E 5 y0) = 0 then
              (0 : Int32)
            else
              (1 : Int32)
set_option maxHeartbeats 4000000 in
set_option maxRecDepth 100000 in
theorem c_X1_part (l : Launch) (dC : Nat → ClassId) (dI : Nat → Nat → Nat) (a : Nat → Nat) (k : Nat → ClassId) (LP : List Nat) (N : Nat) (L : Nat) (f1 f2 f3 f4 f5 f6 f7 f8 : Int32) (rd : Nat) (f10 f11 f12 : Int32) (n : Nat) (f14 : Int32) (lf : Int64) (wd : Nat → Int64) (ho ro pa : Nat → Int32) (rs : Nat → Option Nat) (E : Nat → Nat → Int32) (y0 : Nat) (hy0 : y0 ∈ LP) (p0 : Int32)  : Met l yX1_part (wX1_part :: AW) ({ frames := 0, cells := 0, slots := 0, locals := 0 }) (va_Pc [.ref y0, .int p0] (CPre dC dI (CWl a k LP N L f1 f2 f3 f4 f5 f6 f7 f8 rd f10 f11 f12 n f14 lf wd ho ro pa rs E) [(k 0, .long), (k 1, .int), (k 2, .int), (k 3, .object "PageRows$Entry"), (k 4, .int)])) (vp_Si (fun r => r = mX1_part E y0 p0)) 0 0 (fun _ => False) := by
  refine cx_of (cc := cX1_part) (maxL := 2) (ret := some .int) (by decide) rfl (Nat.le_of_ble_eq_true rfl) ?_
  intro p e s m below meth c ls hx hb hr hts hown hlocks hml hnm hl hB
  have hta : ∀ w ∈ AW, w.before [.ref y0, .int p0].toArray s = true := fun w h => hts w (List.mem_cons_of_mem _ h)
  have hl : lv_has ls 2 [(0, .ref y0), (1, .int p0)] := hl
  have hown : s.vm.findClass RX1 = some m.cls := hown
  obtain ⟨hP, hK, hN⟩ := hB
  refine lv_iload_n hx hb dX1_part_0 rfl (lv_at hl 1 rfl) ?_
  by_cases c_sw_0 : p0 = 0
  · refine lv_tableIn (tgt := 36) hx hb dX1_part_1 (by rw [c_sw_0]; decide) (by rw [c_sw_0]; decide) (by rw [c_sw_0]; rfl) (by decide) ?_
    refine lv_aload_n hx hb dX1_part_36 rfl (lv_at hl 0 rfl) ?_
    obtain ⟨k_1, hk_1⟩ := va_pl_get (X := (CWx a k N L f1 f2 f3 f4 f5 f6 f7 f8 rd f10 f11 f12 n f14 lf wd ho ro pa rs)) (f := (CEf E)) hy0
    refine va_get (D := (dC, dI)) (ci := 1) (v := .int (E 0 y0)) (C := RX1) (T := TX1) (N := 6) hx hb hta inA_X1 hown hK hP k_1 hk_1 rfl 0 (by decide) (hta _ aw_128) (fun _ h9 => h9) rfl dX1_part_37 ?_
    exact W.iret (v := E 0 y0) hx hb hr (fun t ht hW => ⟨E 0 y0, rfl, (by unfold mX1_part; rewrite [if_pos c_sw_0]; (first | done | rfl)), ht⟩) (fun q h => nomatch h) dX1_part_40
  · by_cases c_sw_1 : p0 = 1
    · refine lv_tableIn (tgt := 41) hx hb dX1_part_1 (by rw [c_sw_1]; decide) (by rw [c_sw_1]; decide) (by rw [c_sw_1]; rfl) (by decide) ?_
      refine lv_aload_n hx hb dX1_part_41 rfl (lv_at hl 0 rfl) ?_
      obtain ⟨k_2, hk_2⟩ := va_pl_get (X := (CWx a k N L f1 f2 f3 f4 f5 f6 f7 f8 rd f10 f11 f12 n f14 lf wd ho ro pa rs)) (f := (CEf E)) hy0
      refine va_get (D := (dC, dI)) (ci := 1) (v := .int (E 1 y0)) (C := RX1) (T := TX1) (N := 6) hx hb hta inA_X1 hown hK hP k_2 hk_2 rfl 1 (by decide) (hta _ aw_131) (fun _ h9 => h9) rfl dX1_part_42 ?_
      exact W.iret (v := E 1 y0) hx hb hr (fun t ht hW => ⟨E 1 y0, rfl, (by unfold mX1_part; rewrite [if_neg c_sw_0]; rewrite [if_pos c_sw_1]; (first | done | rfl)), ht⟩) (fun q h => nomatch h) dX1_part_45
    · by_cases c_sw_2 : p0 = 2
      · refine lv_tableIn (tgt := 46) hx hb dX1_part_1 (by rw [c_sw_2]; decide) (by rw [c_sw_2]; decide) (by rw [c_sw_2]; rfl) (by decide) ?_
        refine lv_aload_n hx hb dX1_part_46 rfl (lv_at hl 0 rfl) ?_
        obtain ⟨k_3, hk_3⟩ := va_pl_get (X := (CWx a k N L f1 f2 f3 f4 f5 f6 f7 f8 rd f10 f11 f12 n f14 lf wd ho ro pa rs)) (f := (CEf E)) hy0
        refine va_get (D := (dC, dI)) (ci := 1) (v := .int (E 2 y0)) (C := RX1) (T := TX1) (N := 6) hx hb hta inA_X1 hown hK hP k_3 hk_3 rfl 2 (by decide) (hta _ aw_134) (fun _ h9 => h9) rfl dX1_part_47 ?_
        exact W.iret (v := E 2 y0) hx hb hr (fun t ht hW => ⟨E 2 y0, rfl, (by unfold mX1_part; rewrite [if_neg c_sw_0]; rewrite [if_neg c_sw_1]; rewrite [if_pos c_sw_2]; (first | done | rfl)), ht⟩) (fun q h => nomatch h) dX1_part_50
      · by_cases c_sw_3 : p0 = 3
        · refine lv_tableIn (tgt := 51) hx hb dX1_part_1 (by rw [c_sw_3]; decide) (by rw [c_sw_3]; decide) (by rw [c_sw_3]; rfl) (by decide) ?_
          refine lv_aload_n hx hb dX1_part_51 rfl (lv_at hl 0 rfl) ?_
          obtain ⟨k_4, hk_4⟩ := va_pl_get (X := (CWx a k N L f1 f2 f3 f4 f5 f6 f7 f8 rd f10 f11 f12 n f14 lf wd ho ro pa rs)) (f := (CEf E)) hy0
          refine va_get (D := (dC, dI)) (ci := 1) (v := .int (E 3 y0)) (C := RX1) (T := TX1) (N := 6) hx hb hta inA_X1 hown hK hP k_4 hk_4 rfl 3 (by decide) (hta _ aw_137) (fun _ h9 => h9) rfl dX1_part_52 ?_
          exact W.iret (v := E 3 y0) hx hb hr (fun t ht hW => ⟨E 3 y0, rfl, (by unfold mX1_part; rewrite [if_neg c_sw_0]; rewrite [if_neg c_sw_1]; rewrite [if_neg c_sw_2]; rewrite [if_pos c_sw_3]; (first | done | rfl)), ht⟩) (fun q h => nomatch h) dX1_part_55
        · by_cases c_sw_4 : p0 = 4
          · refine lv_tableIn (tgt := 56) hx hb dX1_part_1 (by rw [c_sw_4]; decide) (by rw [c_sw_4]; decide) (by rw [c_sw_4]; rfl) (by decide) ?_
            refine lv_aload_n hx hb dX1_part_56 rfl (lv_at hl 0 rfl) ?_
            obtain ⟨k_5, hk_5⟩ := va_pl_get (X := (CWx a k N L f1 f2 f3 f4 f5 f6 f7 f8 rd f10 f11 f12 n f14 lf wd ho ro pa rs)) (f := (CEf E)) hy0
            refine va_get (D := (dC, dI)) (ci := 1) (v := .int (E 4 y0)) (C := RX1) (T := TX1) (N := 6) hx hb hta inA_X1 hown hK hP k_5 hk_5 rfl 4 (by decide) (hta _ aw_140) (fun _ h9 => h9) rfl dX1_part_57 ?_
            exact W.iret (v := E 4 y0) hx hb hr (fun t ht hW => ⟨E 4 y0, rfl, (by unfold mX1_part; rewrite [if_neg c_sw_0]; rewrite [if_neg c_sw_1]; rewrite [if_neg c_sw_2]; rewrite [if_neg c_sw_3]; rewrite [if_pos c_sw_4]; (first | done | rfl)), ht⟩) (fun q h => nomatch h) dX1_part_60
          · refine lv_tableOut (tgt := 61) hx hb dX1_part_1 (cx_swout (x := p0) 4 (by decide) (fun j hj => match j, hj with | 0, _ => c_sw_0 | 1, _ => c_sw_1 | 2, _ => c_sw_2 | 3, _ => c_sw_3 | 4, _ => c_sw_4 | q + 5, h => absurd h (by omega))) (by decide) ?_
            refine lv_aload_n hx hb dX1_part_61 rfl (lv_at hl 0 rfl) ?_
            obtain ⟨k_6, hk_6⟩ := va_pl_get (X := (CWx a k N L f1 f2 f3 f4 f5 f6 f7 f8 rd f10 f11 f12 n f14 lf wd ho ro pa rs)) (f := (CEf E)) hy0
            refine va_get (D := (dC, dI)) (ci := 1) (v := .int (E 5 y0)) (C := RX1) (T := TX1) (N := 6) hx hb hta inA_X1 hown hK hP k_6 hk_6 rfl 5 (by decide) (hta _ aw_143) (fun _ h9 => h9) rfl dX1_part_62 ?_
            refine lv_if_eq (tgt := 72) hx hb dX1_part_65 (by decide) (fun c_65_6 => ?_) (fun c_65_6 => ?_)
            · refine lv_iconst (v := 0) hx hb dX1_part_72 (by decide) ?_
              exact W.iret (v := (0 : Int32)) hx hb hr (fun t ht hW => ⟨(0 : Int32), rfl, (by unfold mX1_part; rewrite [if_neg c_sw_0]; rewrite [if_neg c_sw_1]; rewrite [if_neg c_sw_2]; rewrite [if_neg c_sw_3]; rewrite [if_neg c_sw_4]; rewrite [if_pos c_65_6]; (first | done | rfl)), ht⟩) (fun q h => nomatch h) dX1_part_73
            · refine lv_iconst (v := 1) hx hb dX1_part_68 (by decide) ?_
              refine lv_goto (tgt := 73) hx hb dX1_part_69 (by decide) ?_
              exact W.iret (v := (1 : Int32)) hx hb hr (fun t ht hW => ⟨(1 : Int32), rfl, (by unfold mX1_part; rewrite [if_neg c_sw_0]; rewrite [if_neg c_sw_1]; rewrite [if_neg c_sw_2]; rewrite [if_neg c_sw_3]; rewrite [if_neg c_sw_4]; rewrite [if_neg c_65_6]; (first | done | rfl)), ht⟩) (fun q h => nomatch h) dX1_part_73
