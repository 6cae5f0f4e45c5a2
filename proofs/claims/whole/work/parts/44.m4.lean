/-- PageRowsModel.fits -/
def mX5_fits (f1 : Int32) (eC : Nat → Int32) (eL : Nat → Int32) (eB : Nat → Int32) (p0 : Nat) (p1 : Int32) : Int32 :=
  if (eC p0) = f1 then
    if (p1 >>> (((8 : Int32) + ((4 : Int32) * (eL p0))) &&& 31)) = (eB p0) then
      (1 : Int32)
    else
      (0 : Int32)
  else
    (0 : Int32)
set_option maxHeartbeats 4000000 in
set_option maxRecDepth 100000 in
theorem c_X5_fits (l : Launch) (dC : Nat → ClassId) (dI : Nat → Nat → Nat) (ga : Nat → Nat) (gk : Nat → ClassId) (th : Int32) (L : Nat) (N : Nat) (mm : Nat → Int64) (f1 : Int32) (mr : Nat → Int32) (mh : Nat → Int32) (f8 : Int32) (en : Nat) (us : Nat) (eC : Nat → Int32) (eL : Nat → Int32) (eB : Nat → Int32) (eF : Nat → Int32) (eR : Nat → Int32) (eU : Nat → Int32) (eX : Nat → Int32) (f2 : Int32) (f3 : Int32) (f4 : Int32) (f5 : Int32) (f6 : Int32) (f7 : Int32) (f14 : Int32) (ff : Int32) (fa : Int32) (mn : Nat) (lg : Int32) (cm : Int32) (wa : Nat → Int32)  (p0 : Nat) (p1 : Int32) (hp : p0 < 32) : Met l yX5_fits (wX5_fits :: AW) ({ frames := 0, cells := 0, slots := 0, locals := 0 }) (va_Pc [.ref (ga 0), .int (nI p0), .int p1] (CPre dC dI (MWl ga gk th L N mm f1 mr mh f8 en us eC eL eB eF eR eU eX f2 f3 f4 f5 f6 f7 f14 ff fa mn lg cm wa) [(gk 0, .long), (gk 1, .int), (gk 2, .int), (gk 3, .int), (gk 4, .int), (gk 5, .int), (gk 6, .int), (gk 7, .int), (gk 8, .int), (gk 9, .boolean), (gk 10, .int)])) (vp_Si (fun r => r = mX5_fits f1 eC eL eB p0 p1)) 0 0 (fun _ => False) := by
  refine cx_of (cc := cX5_fits) (maxL := 3) (ret := some .boolean) (by decide) rfl (Nat.le_of_ble_eq_true rfl) ?_
  intro p e s m below meth c ls hx hb hr hts hown hlocks hml hnm hl hB
  have hta : ∀ w ∈ AW, w.before [.ref (ga 0), .int (nI p0), .int p1].toArray s = true := fun w h => hts w (List.mem_cons_of_mem _ h)
  have hl : lv_has ls 3 [(0, .ref (ga 0)), (1, .int (nI p0)), (2, .int p1)] := hl
  have hown : s.vm.findClass RX5 = some m.cls := hown
  obtain ⟨hP, hK, hN⟩ := hB
  refine lv_aload_n hx hb dX5_fits_0 rfl (lv_at hl 0 rfl) ?_
  refine va_get (D := (dC, dI)) (ci := 5) (v := .ref (ga 4)) (C := RX5) (T := TX5) (N := 30) hx hb hta inA_X5 hown hK hP 0 rfl rfl 10 (by decide) (hta _ aw_521) (fun _ h9 => h9) rfl dX5_fits_1 ?_
  refine lv_iload_n hx hb dX5_fits_4 rfl (lv_at hl 1 rfl) ?_
  refine va_iald hx hb hK hP 4 3 rfl rfl (vp_in_nI (by omega) (by omega)) dX5_fits_5 ?_
  rw [nI_clamp (show p0 < 2 ^ 31 by omega)]
  refine lv_aload_n hx hb dX5_fits_6 rfl (lv_at hl 0 rfl) ?_
  refine va_get (D := (dC, dI)) (ci := 5) (v := .int f1) (C := RX5) (T := TX5) (N := 30) hx hb hta inA_X5 hown hK hP 0 rfl rfl 4 (by decide) (hta _ aw_515) (fun _ h9 => h9) rfl dX5_fits_7 ?_
  refine lv_icmp_ne (tgt := 39) hx hb dX5_fits_10 (by decide) (fun c_10_0 => ?_) (fun c_10_0 => ?_)
  · refine lv_iconst (v := 0) hx hb dX5_fits_39 (by decide) ?_
    exact W.zret (ty := .boolean) (v := (0 : Int32)) hx hb hr rfl (fun t ht hW => ⟨(0 : Int32), rfl, (by unfold mX5_fits; rewrite [if_neg c_10_0]; (first | done | rfl)), ht⟩) (fun q h => nomatch h) dX5_fits_40
  · refine lv_iload_n hx hb dX5_fits_13 rfl (lv_at hl 2 rfl) ?_
    refine lv_bipush (v := 8) hx hb dX5_fits_14 (by decide) ?_
    refine lv_iconst (v := 4) hx hb dX5_fits_16 (by decide) ?_
    refine lv_aload_n hx hb dX5_fits_17 rfl (lv_at hl 0 rfl) ?_
    refine va_get (D := (dC, dI)) (ci := 5) (v := .ref (ga 5)) (C := RX5) (T := TX5) (N := 30) hx hb hta inA_X5 hown hK hP 0 rfl rfl 11 (by decide) (hta _ aw_522) (fun _ h9 => h9) rfl dX5_fits_18 ?_
    refine lv_iload_n hx hb dX5_fits_21 rfl (lv_at hl 1 rfl) ?_
    refine va_iald hx hb hK hP 5 4 rfl rfl (vp_in_nI (by omega) (by omega)) dX5_fits_22 ?_
    rw [nI_clamp (show p0 < 2 ^ 31 by omega)]
    refine lv_imul hx hb dX5_fits_23 ?_
    refine lv_iadd hx hb dX5_fits_24 ?_
    refine lv_ishr hx hb dX5_fits_25 ?_
    refine lv_aload_n hx hb dX5_fits_26 rfl (lv_at hl 0 rfl) ?_
    refine va_get (D := (dC, dI)) (ci := 5) (v := .ref (ga 6)) (C := RX5) (T := TX5) (N := 30) hx hb hta inA_X5 hown hK hP 0 rfl rfl 12 (by decide) (hta _ aw_523) (fun _ h9 => h9) rfl dX5_fits_27 ?_
    refine lv_iload_n hx hb dX5_fits_30 rfl (lv_at hl 1 rfl) ?_
    refine va_iald hx hb hK hP 6 5 rfl rfl (vp_in_nI (by omega) (by omega)) dX5_fits_31 ?_
    rw [nI_clamp (show p0 < 2 ^ 31 by omega)]
    refine lv_icmp_ne (tgt := 39) hx hb dX5_fits_32 (by decide) (fun c_32_1 => ?_) (fun c_32_1 => ?_)
    · refine lv_iconst (v := 0) hx hb dX5_fits_39 (by decide) ?_
      exact W.zret (ty := .boolean) (v := (0 : Int32)) hx hb hr rfl (fun t ht hW => ⟨(0 : Int32), rfl, (by unfold mX5_fits; rewrite [if_pos c_10_0]; rewrite [if_neg c_32_1]; (first | done | rfl)), ht⟩) (fun q h => nomatch h) dX5_fits_40
    · refine lv_iconst (v := 1) hx hb dX5_fits_35 (by decide) ?_
      refine lv_goto (tgt := 40) hx hb dX5_fits_36 (by decide) ?_
      exact W.zret (ty := .boolean) (v := (1 : Int32)) hx hb hr rfl (fun t ht hW => ⟨(1 : Int32), rfl, (by unfold mX5_fits; rewrite [if_pos c_10_0]; rewrite [if_pos c_32_1]; (first | done | rfl)), ht⟩) (fun q h => nomatch h) dX5_fits_40
theorem mX5_fits_z (f1 : Int32) (eC : Nat → Int32) (eL : Nat → Int32) (eB : Nat → Int32) (p0 : Nat) (p1 : Int32) : narrow .boolean (.int (mX5_fits f1 eC eL eB p0 p1)) = .int (mX5_fits f1 eC eL eB p0 p1) := by
  unfold mX5_fits
  repeat' split
  all_goals first | rfl | exact rfl
/-- PageRowsModel.entryFor: at entry i, j left, the best so far -/
def mEF (f1 : Int32) (eC eL eB eU : Nat → Int32) (p0 : Int32) : Nat → Nat → Option Nat → Option Nat
  | 0, _, bo => bo
  | j + 1, i, bo => if mX5_fits f1 eC eL eB i p0 = 0 then mEF f1 eC eL eB eU p0 j (i + 1) bo else match bo with
    | none => mEF f1 eC eL eB eU p0 j (i + 1) (some i)
    | some b9 => if eU i ≤ eU b9 then mEF f1 eC eL eB eU p0 j (i + 1) (some b9) else mEF f1 eC eL eB eU p0 j (i + 1) (some i)
theorem mEF_lt (f1 : Int32) (eC eL eB eU : Nat → Int32) (p0 : Int32) : ∀ (j i : Nat) (bo : Option Nat) (x : Nat), (∀ b9, bo = some b9 → b9 < i) → mEF f1 eC eL eB eU p0 j i bo = some x → x < i + j
  | 0, i, bo, x, hb, h => by
    have := hb x h
    omega
  | j + 1, i, bo, x, hb, h => by
    have up : ∀ (bo' : Option Nat), (∀ b9, bo' = some b9 → b9 < i + 1) → mEF f1 eC eL eB eU p0 j (i + 1) bo' = some x → x < i + (j + 1) := fun bo' h1 h2 => by
      have := mEF_lt f1 eC eL eB eU p0 j (i + 1) bo' x h1 h2
      omega
    have hb1 : ∀ b9, bo = some b9 → b9 < i + 1 := fun b9 e => by have := hb b9 e; omega
    have hi1 : ∀ b9, some i = some b9 → b9 < i + 1 := fun b9 e => by cases e; omega
    unfold mEF at h
    split at h
    · exact up bo hb1 h
    · cases bo with
      | none => exact up _ hi1 h
      | some b9 =>
        dsimp only at h
        split at h
        · exact up _ hb1 h
        · exact up _ hi1 h

set_option maxHeartbeats 4000000 in
set_option maxRecDepth 100000 in
theorem c_X5_entryFor (l : Launch) (dC : Nat → ClassId) (dI : Nat → Nat → Nat) (ga : Nat → Nat) (gk : Nat → ClassId) (th : Int32) (L : Nat) (N : Nat) (mm : Nat → Int64) (f1 : Int32) (mr : Nat → Int32) (mh : Nat → Int32) (f8 : Int32) (en : Nat) (us : Nat) (eC : Nat → Int32) (eL : Nat → Int32) (eB : Nat → Int32) (eF : Nat → Int32) (eR : Nat → Int32) (eU : Nat → Int32) (eX : Nat → Int32) (f2 : Int32) (f3 : Int32) (f4 : Int32) (f5 : Int32) (f6 : Int32) (f7 : Int32) (f14 : Int32) (ff : Int32) (fa : Int32) (mn : Nat) (lg : Int32) (cm : Int32) (wa : Nat → Int32)  (p0 : Int32) (hen : en ≤ N) (hN32 : N ≤ 32) : Met l yX5_entryFor (wX5_entryFor :: AW) ({ frames := 1, cells := 0, slots := 0, locals := 22 }) (va_Pc [.ref (ga 0), .int p0] (CPre dC dI (MWl ga gk th L N mm f1 mr mh f8 en us eC eL eB eF eR eU eX f2 f3 f4 f5 f6 f7 f14 ff fa mn lg cm wa) [(gk 0, .long), (gk 1, .int), (gk 2, .int), (gk 3, .int), (gk 4, .int), (gk 5, .int), (gk 6, .int), (gk 7, .int), (gk 8, .int), (gk 9, .boolean), (gk 10, .int)])) (vp_Si (fun r => r = optI (mEF f1 eC eL eB eU p0 en 0 none))) 0 0 (fun _ => False) := by
  refine cx_of (cc := cX5_entryFor) (maxL := 4) (ret := some .int) (by decide) rfl (Nat.le_of_ble_eq_true rfl) ?_
  intro p e s m below meth c ls hx hb hr hts hown hlocks hml hnm hl hB
  have hta : ∀ w ∈ AW, w.before [.ref (ga 0), .int p0].toArray s = true := fun w h => hts w (List.mem_cons_of_mem _ h)
  have hl : lv_has ls 4 [(0, .ref (ga 0)), (1, .int p0)] := hl
  have hown : s.vm.findClass RX5 = some m.cls := hown
  obtain ⟨hP, hK, hN⟩ := hB
  have loop : ∀ (j i : Nat) (bo : Option Nat), i + j = en → (∀ b9, bo = some b9 → b9 < i) → mEF f1 eC eL eB eU p0 en 0 none = mEF f1 eC eL eB eU p0 j i bo → ∀ (ls : Array Slot), lv_has ls 4 [(3, .int (nI i)), (2, .int (optI bo)), (0, .ref (ga 0)), (1, .int p0)] → W p l e ({ frames := 1, cells := 0, slots := 0, locals := 22 }) s m [.ref (ga 0), .int p0].toArray below meth c s.heap [] 0 0 (MQ below (vp_Si (fun r => r = optI (mEF f1 eC eL eB eU p0 en 0 none))) [.ref (ga 0), .int p0].toArray s 0 0 (fun _ => False)) (F0 m 4 ls []) := by
    intro j
    induction j with
    | zero =>
      intro i bo hi hbo hm ls hl
      refine lv_iload_n hx hb dX5_entryFor_4 rfl (lv_at hl 0 rfl) ?_
      refine lv_aload_n hx hb dX5_entryFor_5 rfl (lv_at hl 2 rfl) ?_
      refine va_get (D := (dC, dI)) (ci := 5) (v := .int (nI en)) (C := RX5) (T := TX5) (N := 30) hx hb hta inA_X5 hown hK hP 0 rfl rfl 8 (by decide) (hta _ aw_519) (fun _ h9 => h9) rfl dX5_entryFor_6 ?_
      refine lv_icmp_ge (tgt := 48) hx hb dX5_entryFor_9 (by decide) (fun c_9_0 => ?_) (fun c_9_0 => ?_)
      · refine lv_iload_n hx hb dX5_entryFor_48 rfl (lv_at hl 1 rfl) ?_
        exact W.iret (v := optI bo) hx hb hr (fun t ht hW => ⟨optI bo, rfl, (by rw [hm]; rfl), ht⟩) (fun q h => nomatch h) dX5_entryFor_49
      · exact absurd (nI_le (by omega) (by omega)) c_9_0
    | succ j ih =>
      intro i bo hi hbo hm ls hl
      rcases bo with _ | b9
      · have hl : lv_has ls 4 [(3, .int (nI i)), (2, .int (-1 : Int32)), (0, .ref (ga 0)), (1, .int p0)] := hl
        refine lv_iload_n hx hb dX5_entryFor_4 rfl (lv_at hl 0 rfl) ?_
        refine lv_aload_n hx hb dX5_entryFor_5 rfl (lv_at hl 2 rfl) ?_
        refine va_get (D := (dC, dI)) (ci := 5) (v := .int (nI en)) (C := RX5) (T := TX5) (N := 30) hx hb hta inA_X5 hown hK hP 0 rfl rfl 8 (by decide) (hta _ aw_519) (fun _ h9 => h9) rfl dX5_entryFor_6 ?_
        refine lv_icmp_ge (tgt := 48) hx hb dX5_entryFor_9 (by decide) (fun c_9_1 => ?_) (fun c_9_1 => ?_)
        · exact absurd c_9_1 (nI_ge (by omega) (by omega))
        · refine lv_aload_n hx hb dX5_entryFor_12 rfl (lv_at hl 2 rfl) ?_
          refine lv_iload_n hx hb dX5_entryFor_13 rfl (lv_at hl 0 rfl) ?_
          refine lv_iload_n hx hb dX5_entryFor_14 rfl (lv_at hl 3 rfl) ?_
          refine cx_callSi (va_runV (As := [.int (nI i), .int p0]) (rest := []) ⟨hx, hb, hml, hown, hta⟩ (c_X5_fits l dC dI ga gk th L N mm f1 mr mh f8 en us eC eL eB eF eR eU eX f2 f3 f4 f5 f6 f7 f14 ff fa mn lg cm wa i p0 (by omega)) (cwV 2 hta (gV aw_651 aw_653 aw_23 aw_43 aw_654) rfl rfl rfl (by decide +kernel) ⟨Nat.le_of_ble_eq_true rfl, Nat.le_of_ble_eq_true rfl⟩) (cx_preVS hK hP hN (va_recv hK hP (ci := 5) (q0 := 0) rfl rfl)) rfl rfl hl.1 rfl (lv_room (Nat.le_of_ble_eq_true rfl)) dX5_entryFor_15 ⟨Nat.le_of_ble_eq_true rfl, Nat.le_of_ble_eq_true rfl⟩) (fun r hw_3 => ?_)
          subst hw_3
          refine lv_if_eq (tgt := 42) hx hb dX5_entryFor_18 (by decide) (fun c_18_3 => ?_) (fun c_18_3 => ?_)
          · refine lv_iinc (v := nI (i + 1)) (lv' := [(3, .int (nI (i + 1))), (2, .int (-1 : Int32)), (0, .ref (ga 0)), (1, .int p0)]) hx hb dX5_entryFor_42 hl (k := 0) rfl (cx_inc i 1 rfl) (by decide) rfl (fun ls hl => ?_)
            refine lv_goto (tgt := 4) hx hb dX5_entryFor_45 (by decide) ?_
            exact ih (i + 1) none (by omega) (fun q hq => by first | (cases hq; omega) | cases hq) (by rewrite [hm, mEF]; rewrite [if_pos c_18_3]; (first | done | rfl)) ls (lv_sub hl [0, 1, 2, 3] rfl)
          · refine lv_iload_n hx hb dX5_entryFor_21 rfl (lv_at hl 1 rfl) ?_
            refine lv_if_lt (tgt := 40) hx hb dX5_entryFor_22 (by decide) (fun c_22_4 => ?_) (fun c_22_4 => ?_)
            · refine lv_iload_n hx hb dX5_entryFor_40 rfl (lv_at hl 0 rfl) ?_
              refine lv_istore_n (lv' := [(2, .int (nI i)), (3, .int (nI i)), (0, .ref (ga 0)), (1, .int p0)]) hx hb dX5_entryFor_41 rfl hl (by decide) rfl (fun ls hl => ?_)
              refine lv_iinc (v := nI (i + 1)) (lv' := [(3, .int (nI (i + 1))), (2, .int (nI i)), (0, .ref (ga 0)), (1, .int p0)]) hx hb dX5_entryFor_42 hl (k := 1) rfl (cx_inc i 1 rfl) (by decide) rfl (fun ls hl => ?_)
              refine lv_goto (tgt := 4) hx hb dX5_entryFor_45 (by decide) ?_
              exact ih (i + 1) (some i) (by omega) (fun q hq => by first | (cases hq; omega) | cases hq) (by rewrite [hm, mEF]; rewrite [if_neg c_18_3]; (first | done | rfl)) ls (lv_sub hl [0, 1, 2, 3] rfl)
            · exact absurd (by decide) c_22_4
      · have hl : lv_has ls 4 [(3, .int (nI i)), (2, .int (nI b9)), (0, .ref (ga 0)), (1, .int p0)] := hl
        have hb9 : b9 < i := hbo b9 rfl
        refine lv_iload_n hx hb dX5_entryFor_4 rfl (lv_at hl 0 rfl) ?_
        refine lv_aload_n hx hb dX5_entryFor_5 rfl (lv_at hl 2 rfl) ?_
        refine va_get (D := (dC, dI)) (ci := 5) (v := .int (nI en)) (C := RX5) (T := TX5) (N := 30) hx hb hta inA_X5 hown hK hP 0 rfl rfl 8 (by decide) (hta _ aw_519) (fun _ h9 => h9) rfl dX5_entryFor_6 ?_
        refine lv_icmp_ge (tgt := 48) hx hb dX5_entryFor_9 (by decide) (fun c_9_5 => ?_) (fun c_9_5 => ?_)
        · exact absurd c_9_5 (nI_ge (by omega) (by omega))
        · refine lv_aload_n hx hb dX5_entryFor_12 rfl (lv_at hl 2 rfl) ?_
          refine lv_iload_n hx hb dX5_entryFor_13 rfl (lv_at hl 0 rfl) ?_
          refine lv_iload_n hx hb dX5_entryFor_14 rfl (lv_at hl 3 rfl) ?_
          refine cx_callSi (va_runV (As := [.int (nI i), .int p0]) (rest := []) ⟨hx, hb, hml, hown, hta⟩ (c_X5_fits l dC dI ga gk th L N mm f1 mr mh f8 en us eC eL eB eF eR eU eX f2 f3 f4 f5 f6 f7 f14 ff fa mn lg cm wa i p0 (by omega)) (cwV 2 hta (gV aw_651 aw_653 aw_23 aw_43 aw_654) rfl rfl rfl (by decide +kernel) ⟨Nat.le_of_ble_eq_true rfl, Nat.le_of_ble_eq_true rfl⟩) (cx_preVS hK hP hN (va_recv hK hP (ci := 5) (q0 := 0) rfl rfl)) rfl rfl hl.1 rfl (lv_room (Nat.le_of_ble_eq_true rfl)) dX5_entryFor_15 ⟨Nat.le_of_ble_eq_true rfl, Nat.le_of_ble_eq_true rfl⟩) (fun r hw_7 => ?_)
          subst hw_7
          refine lv_if_eq (tgt := 42) hx hb dX5_entryFor_18 (by decide) (fun c_18_7 => ?_) (fun c_18_7 => ?_)
          · refine lv_iinc (v := nI (i + 1)) (lv' := [(3, .int (nI (i + 1))), (2, .int (nI b9)), (0, .ref (ga 0)), (1, .int p0)]) hx hb dX5_entryFor_42 hl (k := 0) rfl (cx_inc i 1 rfl) (by decide) rfl (fun ls hl => ?_)
            refine lv_goto (tgt := 4) hx hb dX5_entryFor_45 (by decide) ?_
            exact ih (i + 1) (some b9) (by omega) (fun q hq => by first | (cases hq; omega) | cases hq) (by rewrite [hm, mEF]; rewrite [if_pos c_18_7]; (first | done | rfl)) ls (lv_sub hl [0, 1, 2, 3] rfl)
          · refine lv_iload_n hx hb dX5_entryFor_21 rfl (lv_at hl 1 rfl) ?_
            refine lv_if_lt (tgt := 40) hx hb dX5_entryFor_22 (by decide) (fun c_22_8 => ?_) (fun c_22_8 => ?_)
            · exact absurd c_22_8 (nI_pos (by omega))
            · refine lv_aload_n hx hb dX5_entryFor_25 rfl (lv_at hl 2 rfl) ?_
              refine va_get (D := (dC, dI)) (ci := 5) (v := .ref (ga 9)) (C := RX5) (T := TX5) (N := 30) hx hb hta inA_X5 hown hK hP 0 rfl rfl 15 (by decide) (hta _ aw_526) (fun _ h9 => h9) rfl dX5_entryFor_26 ?_
              refine lv_iload_n hx hb dX5_entryFor_29 rfl (lv_at hl 0 rfl) ?_
              refine va_iald hx hb hK hP 9 8 rfl rfl (vp_in_nI (by omega) (by omega)) dX5_entryFor_30 ?_
              rw [nI_clamp (show i < 2 ^ 31 by omega)]
              refine lv_aload_n hx hb dX5_entryFor_31 rfl (lv_at hl 2 rfl) ?_
              refine va_get (D := (dC, dI)) (ci := 5) (v := .ref (ga 9)) (C := RX5) (T := TX5) (N := 30) hx hb hta inA_X5 hown hK hP 0 rfl rfl 15 (by decide) (hta _ aw_526) (fun _ h9 => h9) rfl dX5_entryFor_32 ?_
              refine lv_iload_n hx hb dX5_entryFor_35 rfl (lv_at hl 1 rfl) ?_
              refine va_iald hx hb hK hP 9 8 rfl rfl (vp_in_nI (by omega) (by omega)) dX5_entryFor_36 ?_
              rw [nI_clamp (show b9 < 2 ^ 31 by omega)]
              refine lv_icmp_le (tgt := 42) hx hb dX5_entryFor_37 (by decide) (fun c_37_9 => ?_) (fun c_37_9 => ?_)
              · refine lv_iinc (v := nI (i + 1)) (lv' := [(3, .int (nI (i + 1))), (2, .int (nI b9)), (0, .ref (ga 0)), (1, .int p0)]) hx hb dX5_entryFor_42 hl (k := 0) rfl (cx_inc i 1 rfl) (by decide) rfl (fun ls hl => ?_)
                refine lv_goto (tgt := 4) hx hb dX5_entryFor_45 (by decide) ?_
                exact ih (i + 1) (some b9) (by omega) (fun q hq => by first | (cases hq; omega) | cases hq) (by rewrite [hm, mEF]; rewrite [if_neg c_18_7]; (try dsimp only); rewrite [if_pos c_37_9]; (first | done | rfl)) ls (lv_sub hl [0, 1, 2, 3] rfl)
              · refine lv_iload_n hx hb dX5_entryFor_40 rfl (lv_at hl 0 rfl) ?_
                refine lv_istore_n (lv' := [(2, .int (nI i)), (3, .int (nI i)), (0, .ref (ga 0)), (1, .int p0)]) hx hb dX5_entryFor_41 rfl hl (by decide) rfl (fun ls hl => ?_)
                refine lv_iinc (v := nI (i + 1)) (lv' := [(3, .int (nI (i + 1))), (2, .int (nI i)), (0, .ref (ga 0)), (1, .int p0)]) hx hb dX5_entryFor_42 hl (k := 1) rfl (cx_inc i 1 rfl) (by decide) rfl (fun ls hl => ?_)
                refine lv_goto (tgt := 4) hx hb dX5_entryFor_45 (by decide) ?_
                exact ih (i + 1) (some i) (by omega) (fun q hq => by first | (cases hq; omega) | cases hq) (by rewrite [hm, mEF]; rewrite [if_neg c_18_7]; (try dsimp only); rewrite [if_neg c_37_9]; (first | done | rfl)) ls (lv_sub hl [0, 1, 2, 3] rfl)
  refine lv_iconst (v := (-1)) hx hb dX5_entryFor_0 (by decide) ?_
  refine lv_istore_n (lv' := [(2, .int (-1 : Int32)), (0, .ref (ga 0)), (1, .int p0)]) hx hb dX5_entryFor_1 rfl hl (by decide) rfl (fun ls hl => ?_)
  refine lv_iconst (v := 0) hx hb dX5_entryFor_2 (by decide) ?_
  refine lv_istore_n (lv' := [(3, .int (0 : Int32)), (2, .int (-1 : Int32)), (0, .ref (ga 0)), (1, .int p0)]) hx hb dX5_entryFor_3 rfl hl (by decide) rfl (fun ls hl => ?_)
  exact loop en 0 none (by omega) (fun q hq => by cases hq) rfl ls (lv_sub hl [0, 1, 2, 3] rfl)
/-- PageRowsModel.use -/
def mX5_use (us : Nat) (eU : Nat → Int32) (p0 : Nat) : Nat × (Nat → Int32) :=
  ((us + 1), upd eU p0 (nI (us + 1)))
set_option maxHeartbeats 4000000 in
set_option maxRecDepth 100000 in
theorem c_X5_use (l : Launch) (dC : Nat → ClassId) (dI : Nat → Nat → Nat) (ga : Nat → Nat) (gk : Nat → ClassId) (th : Int32) (L : Nat) (N : Nat) (mm : Nat → Int64) (f1 : Int32) (mr : Nat → Int32) (mh : Nat → Int32) (f8 : Int32) (en : Nat) (us : Nat) (eC : Nat → Int32) (eL : Nat → Int32) (eB : Nat → Int32) (eF : Nat → Int32) (eR : Nat → Int32) (eU : Nat → Int32) (eX : Nat → Int32) (f2 : Int32) (f3 : Int32) (f4 : Int32) (f5 : Int32) (f6 : Int32) (f7 : Int32) (f14 : Int32) (ff : Int32) (fa : Int32) (mn : Nat) (lg : Int32) (cm : Int32) (wa : Nat → Int32)  (sz : Nat) (p0 : Nat) (hp : p0 < 32) : Met l yX5_use (wX5_use :: AW) ({ frames := 0, cells := 0, slots := 0, locals := 0 }) (va_Pc [.ref (ga 0), .int (nI p0)] (CPrQ dC dI (MWl ga gk th L N mm f1 mr mh f8 en us eC eL eB eF eR eU eX f2 f3 f4 f5 f6 f7 f14 ff fa mn lg cm wa) [(gk 0, .long), (gk 1, .int), (gk 2, .int), (gk 3, .int), (gk 4, .int), (gk 5, .int), (gk 6, .int), (gk 7, .int), (gk 8, .int), (gk 9, .boolean), (gk 10, .int)] sz)) (va_Qv (fun (u : Nat × (Nat → Int32)) => u = mX5_use us eU p0) (fun (u : Nat × (Nat → Int32)) (t : State) => match u with | (us', eU') => va_P (dC, dI) vwCl (MWl ga gk th L N mm f1 mr mh f8 en us' eC eL eB eF eR eU' eX f2 f3 f4 f5 f6 f7 f14 ff fa mn lg cm wa) t.heap ∧ va_K (dC, dI) vwCl [(gk 0, .long), (gk 1, .int), (gk 2, .int), (gk 3, .int), (gk 4, .int), (gk 5, .int), (gk 6, .int), (gk 7, .int), (gk 8, .int), (gk 9, .boolean), (gk 10, .int)] t ∧ va_D (va_A (MWl ga gk th L N mm f1 mr mh f8 en us eC eL eB eF eR eU eX f2 f3 f4 f5 f6 f7 f14 ff fa mn lg cm wa) sz) (MWl ga gk th L N mm f1 mr mh f8 en us' eC eL eB eF eR eU' eX f2 f3 f4 f5 f6 f7 f14 ff fa mn lg cm wa)) (va_A (MWl ga gk th L N mm f1 mr mh f8 en us eC eL eB eF eR eU eX f2 f3 f4 f5 f6 f7 f14 ff fa mn lg cm wa) sz)) 0 0 (va_A (MWl ga gk th L N mm f1 mr mh f8 en us eC eL eB eF eR eU eX f2 f3 f4 f5 f6 f7 f14 ff fa mn lg cm wa) sz) := by
  refine cx_of (cc := cX5_use) (maxL := 2) (ret := none) (by decide) rfl (Nat.le_of_ble_eq_true rfl) ?_
  intro p e s m below meth c ls hx hb hr hts hown hlocks hml hnm hl hB
  have hta : ∀ w ∈ AW, w.before [.ref (ga 0), .int (nI p0)].toArray s = true := fun w h => hts w (List.mem_cons_of_mem _ h)
  have hl : lv_has ls 2 [(0, .ref (ga 0)), (1, .int (nI p0))] := hl
  have hown : s.vm.findClass RX5 = some m.cls := hown
  obtain ⟨rfl, ⟨hP, hK, hN⟩, hD0⟩ := hB
  have hD := hD0.self (sz := s.heap.size)
  generalize hAe : va_A (MWl ga gk th L N mm f1 mr mh f8 en us eC eL eB eF eR eU eX f2 f3 f4 f5 f6 f7 f14 ff fa mn lg cm wa) s.heap.size = A at hD ⊢
  have hA : ∀ q : Nat, s.heap.size ≤ q → A q := fun q h => by rw [← hAe]; exact Or.inr h
  have hS : va_S A s.heap s.heap [] := va_S.rf
  refine lv_aload_n hx hb dX5_use_0 rfl (lv_at hl 0 rfl) ?_
  refine lv_dup hx hb dX5_use_1 rfl ?_
  refine va_get (D := (dC, dI)) (ci := 5) (v := .int (nI us)) (C := RX5) (T := TX5) (N := 30) hx hb hta inA_X5 hown hK hP 0 rfl rfl 9 (by decide) (hta _ aw_520) (fun _ h9 => h9) rfl dX5_use_2 ?_
  refine lv_iconst (v := 1) hx hb dX5_use_5 (by decide) ?_
  refine lv_iadd hx hb dX5_use_6 ?_
  rw [show (nI us) + (1 : Int32) = nI (us + 1) from nI_add us 1]
  refine va_put (D := (dC, dI)) (ci := 5) (v := .int (nI (us + 1))) (ty := .int) (C := RX5) (T := TX5) (N := 30) hx hb hta inA_X5 tyX5 tyX5_ok nmX5 hown hK hP hD hS 0 rfl rfl 9 (by decide) (hta _ aw_520) (fun _ h9 => h9) rfl (by decide +kernel) rfl rfl (Nat.le_of_ble_eq_true rfl) dX5_use_7 (fun H locs hP hD hS => ?_)
  have hP : va_P (dC, dI) vwCl (MWl ga gk th L N mm f1 mr mh f8 en (us + 1) eC eL eB eF eR eU eX f2 f3 f4 f5 f6 f7 f14 ff fa mn lg cm wa) H := hP
  have hD : va_D A (MWl ga gk th L N mm f1 mr mh f8 en (us + 1) eC eL eB eF eR eU eX f2 f3 f4 f5 f6 f7 f14 ff fa mn lg cm wa) := hD
  refine lv_aload_n hx hb dX5_use_10 rfl (lv_at hl 0 rfl) ?_
  refine va_get (D := (dC, dI)) (ci := 5) (v := .ref (ga 9)) (C := RX5) (T := TX5) (N := 30) hx hb hta inA_X5 hown hK hP 0 rfl rfl 15 (by decide) (hta _ aw_526) (fun _ h9 => h9) rfl dX5_use_11 ?_
  refine lv_iload_n hx hb dX5_use_14 rfl (lv_at hl 1 rfl) ?_
  refine lv_aload_n hx hb dX5_use_15 rfl (lv_at hl 0 rfl) ?_
  refine va_get (D := (dC, dI)) (ci := 5) (v := .int (nI (us + 1))) (C := RX5) (T := TX5) (N := 30) hx hb hta inA_X5 hown hK hP 0 rfl rfl 9 (by decide) (hta _ aw_520) (fun _ h9 => h9) rfl dX5_use_16 ?_
  refine va_iast hx hb hK hP hD hS 9 8 rfl rfl (vp_in_nI (by omega) (by omega)) dX5_use_19 (fun H locs hP hD hS => ?_)
  rw [nI_clamp (show p0 < 2 ^ 31 by omega)] at hP hD
  have hP : va_P (dC, dI) vwCl (MWl ga gk th L N mm f1 mr mh f8 en (us + 1) eC eL eB eF eR (upd eU p0 (nI (us + 1))) eX f2 f3 f4 f5 f6 f7 f14 ff fa mn lg cm wa) H := hP
  have hD : va_D A (MWl ga gk th L N mm f1 mr mh f8 en (us + 1) eC eL eB eF eR (upd eU p0 (nI (us + 1))) eX f2 f3 f4 f5 f6 f7 f14 ff fa mn lg cm wa) := hD
  exact W.vret hx hb hr (fun t ht hW => ⟨⟨((us + 1), upd eU p0 (nI (us + 1))), rfl, (by unfold mX5_use; (first | done | rfl)), by rw [ht]; exact hP, va_K.moved hW.alike hK, hD⟩, hS.F ht⟩) hS.2.2 dX5_use_20
def ZB (x : Int32) : Prop := narrow .boolean (.int x) = .int x
theorem vp_narZ {x : Int32} (h : ZB x) : vp_nar .boolean x = x := by
  unfold vp_nar
  unfold ZB at h
  rw [h]
theorem ZB_upd {f : Nat → Int32} {k : Nat} {x : Int32} (h : ∀ i, ZB (f i)) (hx : ZB x) : ∀ i, ZB (upd f k x i) := by
  intro i
  by_cases e : i = k
  · subst e
    rw [pk_us]
    exact hx
  · rw [pk_un e]
    exact h i
/-- PageRowsModel.drop -/
def mX5_drop (en : Nat) (eC : Nat → Int32) (eL : Nat → Int32) (eB : Nat → Int32) (eF : Nat → Int32) (eR : Nat → Int32) (eU : Nat → Int32) (eX : Nat → Int32) (p0 : Nat) : Nat × (Nat → Int32) × (Nat → Int32) × (Nat → Int32) × (Nat → Int32) × (Nat → Int32) × (Nat → Int32) × (Nat → Int32) :=
  ((en - 1), upd eC p0 (eC (en - 1)), upd eL p0 (eL (en - 1)), upd eB p0 (eB (en - 1)), upd eF p0 (eF (en - 1)), upd eR p0 (eR (en - 1)), upd eU p0 (eU (en - 1)), upd eX p0 (eX (en - 1)))
set_option maxHeartbeats 4000000 in
set_option maxRecDepth 100000 in
theorem c_X5_drop (l : Launch) (dC : Nat → ClassId) (dI : Nat → Nat → Nat) (ga : Nat → Nat) (gk : Nat → ClassId) (th : Int32) (L : Nat) (N : Nat) (mm : Nat → Int64) (f1 : Int32) (mr : Nat → Int32) (mh : Nat → Int32) (f8 : Int32) (en : Nat) (us : Nat) (eC : Nat → Int32) (eL : Nat → Int32) (eB : Nat → Int32) (eF : Nat → Int32) (eR : Nat → Int32) (eU : Nat → Int32) (eX : Nat → Int32) (f2 : Int32) (f3 : Int32) (f4 : Int32) (f5 : Int32) (f6 : Int32) (f7 : Int32) (f14 : Int32) (ff : Int32) (fa : Int32) (mn : Nat) (lg : Int32) (cm : Int32) (wa : Nat → Int32)  (sz : Nat) (p0 : Nat) (h1en : 1 ≤ en) (hen32 : en ≤ 32) (hp : p0 < 32) (hzx : ∀ i, ZB (eX i)) : Met l yX5_drop (wX5_drop :: AW) ({ frames := 0, cells := 0, slots := 0, locals := 0 }) (va_Pc [.ref (ga 0), .int (nI p0)] (CPrQ dC dI (MWl ga gk th L N mm f1 mr mh f8 en us eC eL eB eF eR eU eX f2 f3 f4 f5 f6 f7 f14 ff fa mn lg cm wa) [(gk 0, .long), (gk 1, .int), (gk 2, .int), (gk 3, .int), (gk 4, .int), (gk 5, .int), (gk 6, .int), (gk 7, .int), (gk 8, .int), (gk 9, .boolean), (gk 10, .int)] sz)) (va_Qv (fun (u : Nat × (Nat → Int32) × (Nat → Int32) × (Nat → Int32) × (Nat → Int32) × (Nat → Int32) × (Nat → Int32) × (Nat → Int32)) => u = mX5_drop en eC eL eB eF eR eU eX p0) (fun (u : Nat × (Nat → Int32) × (Nat → Int32) × (Nat → Int32) × (Nat → Int32) × (Nat → Int32) × (Nat → Int32) × (Nat → Int32)) (t : State) => match u with | (en', eC', eL', eB', eF', eR', eU', eX') => va_P (dC, dI) vwCl (MWl ga gk th L N mm f1 mr mh f8 en' us eC' eL' eB' eF' eR' eU' eX' f2 f3 f4 f5 f6 f7 f14 ff fa mn lg cm wa) t.heap ∧ va_K (dC, dI) vwCl [(gk 0, .long), (gk 1, .int), (gk 2, .int), (gk 3, .int), (gk 4, .int), (gk 5, .int), (gk 6, .int), (gk 7, .int), (gk 8, .int), (gk 9, .boolean), (gk 10, .int)] t ∧ va_D (va_A (MWl ga gk th L N mm f1 mr mh f8 en us eC eL eB eF eR eU eX f2 f3 f4 f5 f6 f7 f14 ff fa mn lg cm wa) sz) (MWl ga gk th L N mm f1 mr mh f8 en' us eC' eL' eB' eF' eR' eU' eX' f2 f3 f4 f5 f6 f7 f14 ff fa mn lg cm wa)) (va_A (MWl ga gk th L N mm f1 mr mh f8 en us eC eL eB eF eR eU eX f2 f3 f4 f5 f6 f7 f14 ff fa mn lg cm wa) sz)) 0 0 (va_A (MWl ga gk th L N mm f1 mr mh f8 en us eC eL eB eF eR eU eX f2 f3 f4 f5 f6 f7 f14 ff fa mn lg cm wa) sz) := by
  refine cx_of (cc := cX5_drop) (maxL := 2) (ret := none) (by decide) rfl (Nat.le_of_ble_eq_true rfl) ?_
  intro p e s m below meth c ls hx hb hr hts hown hlocks hml hnm hl hB
  have hta : ∀ w ∈ AW, w.before [.ref (ga 0), .int (nI p0)].toArray s = true := fun w h => hts w (List.mem_cons_of_mem _ h)
  have hl : lv_has ls 2 [(0, .ref (ga 0)), (1, .int (nI p0))] := hl
  have hown : s.vm.findClass RX5 = some m.cls := hown
  obtain ⟨rfl, ⟨hP, hK, hN⟩, hD0⟩ := hB
  have hD := hD0.self (sz := s.heap.size)
  generalize hAe : va_A (MWl ga gk th L N mm f1 mr mh f8 en us eC eL eB eF eR eU eX f2 f3 f4 f5 f6 f7 f14 ff fa mn lg cm wa) s.heap.size = A at hD ⊢
  have hA : ∀ q : Nat, s.heap.size ≤ q → A q := fun q h => by rw [← hAe]; exact Or.inr h
  have hS : va_S A s.heap s.heap [] := va_S.rf
  refine lv_aload_n hx hb dX5_drop_0 rfl (lv_at hl 0 rfl) ?_
  refine lv_dup hx hb dX5_drop_1 rfl ?_
  refine va_get (D := (dC, dI)) (ci := 5) (v := .int (nI en)) (C := RX5) (T := TX5) (N := 30) hx hb hta inA_X5 hown hK hP 0 rfl rfl 8 (by decide) (hta _ aw_519) (fun _ h9 => h9) rfl dX5_drop_2 ?_
  refine lv_iconst (v := 1) hx hb dX5_drop_5 (by decide) ?_
  refine lv_isub hx hb dX5_drop_6 ?_
  rw [show (nI en) - (1 : Int32) = nI (en - 1) from pk_sub h1en]
  refine va_put (D := (dC, dI)) (ci := 5) (v := .int (nI (en - 1))) (ty := .int) (C := RX5) (T := TX5) (N := 30) hx hb hta inA_X5 tyX5 tyX5_ok nmX5 hown hK hP hD hS 0 rfl rfl 8 (by decide) (hta _ aw_519) (fun _ h9 => h9) rfl (by decide +kernel) rfl rfl (Nat.le_of_ble_eq_true rfl) dX5_drop_7 (fun H locs hP hD hS => ?_)
  have hP : va_P (dC, dI) vwCl (MWl ga gk th L N mm f1 mr mh f8 (en - 1) us eC eL eB eF eR eU eX f2 f3 f4 f5 f6 f7 f14 ff fa mn lg cm wa) H := hP
  have hD : va_D A (MWl ga gk th L N mm f1 mr mh f8 (en - 1) us eC eL eB eF eR eU eX f2 f3 f4 f5 f6 f7 f14 ff fa mn lg cm wa) := hD
  refine lv_aload_n hx hb dX5_drop_10 rfl (lv_at hl 0 rfl) ?_
  refine va_get (D := (dC, dI)) (ci := 5) (v := .ref (ga 4)) (C := RX5) (T := TX5) (N := 30) hx hb hta inA_X5 hown hK hP 0 rfl rfl 10 (by decide) (hta _ aw_521) (fun _ h9 => h9) rfl dX5_drop_11 ?_
  refine lv_iload_n hx hb dX5_drop_14 rfl (lv_at hl 1 rfl) ?_
  refine lv_aload_n hx hb dX5_drop_15 rfl (lv_at hl 0 rfl) ?_
  refine va_get (D := (dC, dI)) (ci := 5) (v := .ref (ga 4)) (C := RX5) (T := TX5) (N := 30) hx hb hta inA_X5 hown hK hP 0 rfl rfl 10 (by decide) (hta _ aw_521) (fun _ h9 => h9) rfl dX5_drop_16 ?_
  refine lv_aload_n hx hb dX5_drop_19 rfl (lv_at hl 0 rfl) ?_
  refine va_get (D := (dC, dI)) (ci := 5) (v := .int (nI (en - 1))) (C := RX5) (T := TX5) (N := 30) hx hb hta inA_X5 hown hK hP 0 rfl rfl 8 (by decide) (hta _ aw_519) (fun _ h9 => h9) rfl dX5_drop_20 ?_
  refine va_iald hx hb hK hP 4 3 rfl rfl (vp_in_nI (by omega) (by omega)) dX5_drop_23 ?_
  rw [nI_clamp (show (en - 1) < 2 ^ 31 by omega)]
  refine va_iast hx hb hK hP hD hS 4 3 rfl rfl (vp_in_nI (by omega) (by omega)) dX5_drop_24 (fun H locs hP hD hS => ?_)
  rw [nI_clamp (show p0 < 2 ^ 31 by omega)] at hP hD
  have hP : va_P (dC, dI) vwCl (MWl ga gk th L N mm f1 mr mh f8 (en - 1) us (upd eC p0 (eC (en - 1))) eL eB eF eR eU eX f2 f3 f4 f5 f6 f7 f14 ff fa mn lg cm wa) H := hP
  have hD : va_D A (MWl ga gk th L N mm f1 mr mh f8 (en - 1) us (upd eC p0 (eC (en - 1))) eL eB eF eR eU eX f2 f3 f4 f5 f6 f7 f14 ff fa mn lg cm wa) := hD
  refine lv_aload_n hx hb dX5_drop_25 rfl (lv_at hl 0 rfl) ?_
  refine va_get (D := (dC, dI)) (ci := 5) (v := .ref (ga 5)) (C := RX5) (T := TX5) (N := 30) hx hb hta inA_X5 hown hK hP 0 rfl rfl 11 (by decide) (hta _ aw_522) (fun _ h9 => h9) rfl dX5_drop_26 ?_
  refine lv_iload_n hx hb dX5_drop_29 rfl (lv_at hl 1 rfl) ?_
  refine lv_aload_n hx hb dX5_drop_30 rfl (lv_at hl 0 rfl) ?_
  refine va_get (D := (dC, dI)) (ci := 5) (v := .ref (ga 5)) (C := RX5) (T := TX5) (N := 30) hx hb hta inA_X5 hown hK hP 0 rfl rfl 11 (by decide) (hta _ aw_522) (fun _ h9 => h9) rfl dX5_drop_31 ?_
  refine lv_aload_n hx hb dX5_drop_34 rfl (lv_at hl 0 rfl) ?_
  refine va_get (D := (dC, dI)) (ci := 5) (v := .int (nI (en - 1))) (C := RX5) (T := TX5) (N := 30) hx hb hta inA_X5 hown hK hP 0 rfl rfl 8 (by decide) (hta _ aw_519) (fun _ h9 => h9) rfl dX5_drop_35 ?_
  refine va_iald hx hb hK hP 5 4 rfl rfl (vp_in_nI (by omega) (by omega)) dX5_drop_38 ?_
  rw [nI_clamp (show (en - 1) < 2 ^ 31 by omega)]
  refine va_iast hx hb hK hP hD hS 5 4 rfl rfl (vp_in_nI (by omega) (by omega)) dX5_drop_39 (fun H locs hP hD hS => ?_)
  rw [nI_clamp (show p0 < 2 ^ 31 by omega)] at hP hD
  have hP : va_P (dC, dI) vwCl (MWl ga gk th L N mm f1 mr mh f8 (en - 1) us (upd eC p0 (eC (en - 1))) (upd eL p0 (eL (en - 1))) eB eF eR eU eX f2 f3 f4 f5 f6 f7 f14 ff fa mn lg cm wa) H := hP
  have hD : va_D A (MWl ga gk th L N mm f1 mr mh f8 (en - 1) us (upd eC p0 (eC (en - 1))) (upd eL p0 (eL (en - 1))) eB eF eR eU eX f2 f3 f4 f5 f6 f7 f14 ff fa mn lg cm wa) := hD
  refine lv_aload_n hx hb dX5_drop_40 rfl (lv_at hl 0 rfl) ?_
  refine va_get (D := (dC, dI)) (ci := 5) (v := .ref (ga 6)) (C := RX5) (T := TX5) (N := 30) hx hb hta inA_X5 hown hK hP 0 rfl rfl 12 (by decide) (hta _ aw_523) (fun _ h9 => h9) rfl dX5_drop_41 ?_
  refine lv_iload_n hx hb dX5_drop_44 rfl (lv_at hl 1 rfl) ?_
  refine lv_aload_n hx hb dX5_drop_45 rfl (lv_at hl 0 rfl) ?_
  refine va_get (D := (dC, dI)) (ci := 5) (v := .ref (ga 6)) (C := RX5) (T := TX5) (N := 30) hx hb hta inA_X5 hown hK hP 0 rfl rfl 12 (by decide) (hta _ aw_523) (fun _ h9 => h9) rfl dX5_drop_46 ?_
  refine lv_aload_n hx hb dX5_drop_49 rfl (lv_at hl 0 rfl) ?_
  refine va_get (D := (dC, dI)) (ci := 5) (v := .int (nI (en - 1))) (C := RX5) (T := TX5) (N := 30) hx hb hta inA_X5 hown hK hP 0 rfl rfl 8 (by decide) (hta _ aw_519) (fun _ h9 => h9) rfl dX5_drop_50 ?_
  refine va_iald hx hb hK hP 6 5 rfl rfl (vp_in_nI (by omega) (by omega)) dX5_drop_53 ?_
  rw [nI_clamp (show (en - 1) < 2 ^ 31 by omega)]
  refine va_iast hx hb hK hP hD hS 6 5 rfl rfl (vp_in_nI (by omega) (by omega)) dX5_drop_54 (fun H locs hP hD hS => ?_)
  rw [nI_clamp (show p0 < 2 ^ 31 by omega)] at hP hD
  have hP : va_P (dC, dI) vwCl (MWl ga gk th L N mm f1 mr mh f8 (en - 1) us (upd eC p0 (eC (en - 1))) (upd eL p0 (eL (en - 1))) (upd eB p0 (eB (en - 1))) eF eR eU eX f2 f3 f4 f5 f6 f7 f14 ff fa mn lg cm wa) H := hP
  have hD : va_D A (MWl ga gk th L N mm f1 mr mh f8 (en - 1) us (upd eC p0 (eC (en - 1))) (upd eL p0 (eL (en - 1))) (upd eB p0 (eB (en - 1))) eF eR eU eX f2 f3 f4 f5 f6 f7 f14 ff fa mn lg cm wa) := hD
  refine lv_aload_n hx hb dX5_drop_55 rfl (lv_at hl 0 rfl) ?_
  refine va_get (D := (dC, dI)) (ci := 5) (v := .ref (ga 7)) (C := RX5) (T := TX5) (N := 30) hx hb hta inA_X5 hown hK hP 0 rfl rfl 13 (by decide) (hta _ aw_524) (fun _ h9 => h9) rfl dX5_drop_56 ?_
  refine lv_iload_n hx hb dX5_drop_59 rfl (lv_at hl 1 rfl) ?_
  refine lv_aload_n hx hb dX5_drop_60 rfl (lv_at hl 0 rfl) ?_
  refine va_get (D := (dC, dI)) (ci := 5) (v := .ref (ga 7)) (C := RX5) (T := TX5) (N := 30) hx hb hta inA_X5 hown hK hP 0 rfl rfl 13 (by decide) (hta _ aw_524) (fun _ h9 => h9) rfl dX5_drop_61 ?_
  refine lv_aload_n hx hb dX5_drop_64 rfl (lv_at hl 0 rfl) ?_
  refine va_get (D := (dC, dI)) (ci := 5) (v := .int (nI (en - 1))) (C := RX5) (T := TX5) (N := 30) hx hb hta inA_X5 hown hK hP 0 rfl rfl 8 (by decide) (hta _ aw_519) (fun _ h9 => h9) rfl dX5_drop_65 ?_
  refine va_iald hx hb hK hP 7 6 rfl rfl (vp_in_nI (by omega) (by omega)) dX5_drop_68 ?_
  rw [nI_clamp (show (en - 1) < 2 ^ 31 by omega)]
  refine va_iast hx hb hK hP hD hS 7 6 rfl rfl (vp_in_nI (by omega) (by omega)) dX5_drop_69 (fun H locs hP hD hS => ?_)
  rw [nI_clamp (show p0 < 2 ^ 31 by omega)] at hP hD
  have hP : va_P (dC, dI) vwCl (MWl ga gk th L N mm f1 mr mh f8 (en - 1) us (upd eC p0 (eC (en - 1))) (upd eL p0 (eL (en - 1))) (upd eB p0 (eB (en - 1))) (upd eF p0 (eF (en - 1))) eR eU eX f2 f3 f4 f5 f6 f7 f14 ff fa mn lg cm wa) H := hP
  have hD : va_D A (MWl ga gk th L N mm f1 mr mh f8 (en - 1) us (upd eC p0 (eC (en - 1))) (upd eL p0 (eL (en - 1))) (upd eB p0 (eB (en - 1))) (upd eF p0 (eF (en - 1))) eR eU eX f2 f3 f4 f5 f6 f7 f14 ff fa mn lg cm wa) := hD
  refine lv_aload_n hx hb dX5_drop_70 rfl (lv_at hl 0 rfl) ?_
  refine va_get (D := (dC, dI)) (ci := 5) (v := .ref (ga 8)) (C := RX5) (T := TX5) (N := 30) hx hb hta inA_X5 hown hK hP 0 rfl rfl 14 (by decide) (hta _ aw_525) (fun _ h9 => h9) rfl dX5_drop_71 ?_
  refine lv_iload_n hx hb dX5_drop_74 rfl (lv_at hl 1 rfl) ?_
  refine lv_aload_n hx hb dX5_drop_75 rfl (lv_at hl 0 rfl) ?_
  refine va_get (D := (dC, dI)) (ci := 5) (v := .ref (ga 8)) (C := RX5) (T := TX5) (N := 30) hx hb hta inA_X5 hown hK hP 0 rfl rfl 14 (by decide) (hta _ aw_525) (fun _ h9 => h9) rfl dX5_drop_76 ?_
  refine lv_aload_n hx hb dX5_drop_79 rfl (lv_at hl 0 rfl) ?_
  refine va_get (D := (dC, dI)) (ci := 5) (v := .int (nI (en - 1))) (C := RX5) (T := TX5) (N := 30) hx hb hta inA_X5 hown hK hP 0 rfl rfl 8 (by decide) (hta _ aw_519) (fun _ h9 => h9) rfl dX5_drop_80 ?_
  refine va_iald hx hb hK hP 8 7 rfl rfl (vp_in_nI (by omega) (by omega)) dX5_drop_83 ?_
  rw [nI_clamp (show (en - 1) < 2 ^ 31 by omega)]
  refine va_iast hx hb hK hP hD hS 8 7 rfl rfl (vp_in_nI (by omega) (by omega)) dX5_drop_84 (fun H locs hP hD hS => ?_)
  rw [nI_clamp (show p0 < 2 ^ 31 by omega)] at hP hD
  have hP : va_P (dC, dI) vwCl (MWl ga gk th L N mm f1 mr mh f8 (en - 1) us (upd eC p0 (eC (en - 1))) (upd eL p0 (eL (en - 1))) (upd eB p0 (eB (en - 1))) (upd eF p0 (eF (en - 1))) (upd eR p0 (eR (en - 1))) eU eX f2 f3 f4 f5 f6 f7 f14 ff fa mn lg cm wa) H := hP
  have hD : va_D A (MWl ga gk th L N mm f1 mr mh f8 (en - 1) us (upd eC p0 (eC (en - 1))) (upd eL p0 (eL (en - 1))) (upd eB p0 (eB (en - 1))) (upd eF p0 (eF (en - 1))) (upd eR p0 (eR (en - 1))) eU eX f2 f3 f4 f5 f6 f7 f14 ff fa mn lg cm wa) := hD
  refine lv_aload_n hx hb dX5_drop_85 rfl (lv_at hl 0 rfl) ?_
  refine va_get (D := (dC, dI)) (ci := 5) (v := .ref (ga 9)) (C := RX5) (T := TX5) (N := 30) hx hb hta inA_X5 hown hK hP 0 rfl rfl 15 (by decide) (hta _ aw_526) (fun _ h9 => h9) rfl dX5_drop_86 ?_
  refine lv_iload_n hx hb dX5_drop_89 rfl (lv_at hl 1 rfl) ?_
  refine lv_aload_n hx hb dX5_drop_90 rfl (lv_at hl 0 rfl) ?_
  refine va_get (D := (dC, dI)) (ci := 5) (v := .ref (ga 9)) (C := RX5) (T := TX5) (N := 30) hx hb hta inA_X5 hown hK hP 0 rfl rfl 15 (by decide) (hta _ aw_526) (fun _ h9 => h9) rfl dX5_drop_91 ?_
  refine lv_aload_n hx hb dX5_drop_94 rfl (lv_at hl 0 rfl) ?_
  refine va_get (D := (dC, dI)) (ci := 5) (v := .int (nI (en - 1))) (C := RX5) (T := TX5) (N := 30) hx hb hta inA_X5 hown hK hP 0 rfl rfl 8 (by decide) (hta _ aw_519) (fun _ h9 => h9) rfl dX5_drop_95 ?_
  refine va_iald hx hb hK hP 9 8 rfl rfl (vp_in_nI (by omega) (by omega)) dX5_drop_98 ?_
  rw [nI_clamp (show (en - 1) < 2 ^ 31 by omega)]
  refine va_iast hx hb hK hP hD hS 9 8 rfl rfl (vp_in_nI (by omega) (by omega)) dX5_drop_99 (fun H locs hP hD hS => ?_)
  rw [nI_clamp (show p0 < 2 ^ 31 by omega)] at hP hD
  have hP : va_P (dC, dI) vwCl (MWl ga gk th L N mm f1 mr mh f8 (en - 1) us (upd eC p0 (eC (en - 1))) (upd eL p0 (eL (en - 1))) (upd eB p0 (eB (en - 1))) (upd eF p0 (eF (en - 1))) (upd eR p0 (eR (en - 1))) (upd eU p0 (eU (en - 1))) eX f2 f3 f4 f5 f6 f7 f14 ff fa mn lg cm wa) H := hP
  have hD : va_D A (MWl ga gk th L N mm f1 mr mh f8 (en - 1) us (upd eC p0 (eC (en - 1))) (upd eL p0 (eL (en - 1))) (upd eB p0 (eB (en - 1))) (upd eF p0 (eF (en - 1))) (upd eR p0 (eR (en - 1))) (upd eU p0 (eU (en - 1))) eX f2 f3 f4 f5 f6 f7 f14 ff fa mn lg cm wa) := hD
  refine lv_aload_n hx hb dX5_drop_100 rfl (lv_at hl 0 rfl) ?_
  refine va_get (D := (dC, dI)) (ci := 5) (v := .ref (ga 10)) (C := RX5) (T := TX5) (N := 30) hx hb hta inA_X5 hown hK hP 0 rfl rfl 16 (by decide) (hta _ aw_527) (fun _ h9 => h9) rfl dX5_drop_101 ?_
  refine lv_iload_n hx hb dX5_drop_104 rfl (lv_at hl 1 rfl) ?_
  refine lv_aload_n hx hb dX5_drop_105 rfl (lv_at hl 0 rfl) ?_
  refine va_get (D := (dC, dI)) (ci := 5) (v := .ref (ga 10)) (C := RX5) (T := TX5) (N := 30) hx hb hta inA_X5 hown hK hP 0 rfl rfl 16 (by decide) (hta _ aw_527) (fun _ h9 => h9) rfl dX5_drop_106 ?_
  refine lv_aload_n hx hb dX5_drop_109 rfl (lv_at hl 0 rfl) ?_
  refine va_get (D := (dC, dI)) (ci := 5) (v := .int (nI (en - 1))) (C := RX5) (T := TX5) (N := 30) hx hb hta inA_X5 hown hK hP 0 rfl rfl 8 (by decide) (hta _ aw_519) (fun _ h9 => h9) rfl dX5_drop_110 ?_
  refine va_zald hx hb hK hP 10 9 rfl rfl (vp_in_nI (by omega) (by omega)) dX5_drop_113 ?_
  rw [nI_clamp (show (en - 1) < 2 ^ 31 by omega)]
  refine va_zast hx hb hK hP hD hS 10 9 rfl rfl (vp_in_nI (by omega) (by omega)) dX5_drop_114 (fun H locs hP hD hS => ?_)
  rw [show vp_nar .boolean (eX (en - 1)) = eX (en - 1) from vp_narZ (hzx _)] at hP hD
  rw [nI_clamp (show p0 < 2 ^ 31 by omega)] at hP hD
  have hP : va_P (dC, dI) vwCl (MWl ga gk th L N mm f1 mr mh f8 (en - 1) us (upd eC p0 (eC (en - 1))) (upd eL p0 (eL (en - 1))) (upd eB p0 (eB (en - 1))) (upd eF p0 (eF (en - 1))) (upd eR p0 (eR (en - 1))) (upd eU p0 (eU (en - 1))) (upd eX p0 (eX (en - 1))) f2 f3 f4 f5 f6 f7 f14 ff fa mn lg cm wa) H := hP
  have hD : va_D A (MWl ga gk th L N mm f1 mr mh f8 (en - 1) us (upd eC p0 (eC (en - 1))) (upd eL p0 (eL (en - 1))) (upd eB p0 (eB (en - 1))) (upd eF p0 (eF (en - 1))) (upd eR p0 (eR (en - 1))) (upd eU p0 (eU (en - 1))) (upd eX p0 (eX (en - 1))) f2 f3 f4 f5 f6 f7 f14 ff fa mn lg cm wa) := hD
  exact W.vret hx hb hr (fun t ht hW => ⟨⟨((en - 1), upd eC p0 (eC (en - 1)), upd eL p0 (eL (en - 1)), upd eB p0 (eB (en - 1)), upd eF p0 (eF (en - 1)), upd eR p0 (eR (en - 1)), upd eU p0 (eU (en - 1)), upd eX p0 (eX (en - 1))), rfl, (by unfold mX5_drop; (first | done | rfl)), by rw [ht]; exact hP, va_K.moved hW.alike hK, hD⟩, hS.F ht⟩) hS.2.2 dX5_drop_115
