/-- PageRowsModel.walk -/
def mX5_walk (L : Nat) (N : Nat) (mm : Nat → Int64) (f1 : Int32) (mr : Nat → Int32) (mh : Nat → Int32) (f8 : Int32) (en : Nat) (us : Nat) (eC : Nat → Int32) (eL : Nat → Int32) (eB : Nat → Int32) (eF : Nat → Int32) (eR : Nat → Int32) (eU : Nat → Int32) (eX : Nat → Int32) (f2 : Int32) (f3 : Int32) (f4 : Int32) (f5 : Int32) (f6 : Int32) (f7 : Int32) (f14 : Int32) (ff : Int32) (fa : Int32) (mn : Nat) (lg : Int32) (cm : Int32) (wa : Nat → Int32) (p0 : Int32) (p1 : Int32) : Int32 × Int32 × (Nat → Int64) × Nat × Nat × (Nat → Int32) × (Nat → Int32) × (Nat → Int32) × (Nat → Int32) × (Nat → Int32) × (Nat → Int32) × (Nat → Int32) × Int32 × Int32 × Int32 × Int32 × Int32 × Int32 × Int32 × Int32 × Int32 × Nat × Int32 × Int32 × (Nat → Int32) :=
  if (mX5_isOf p1 (6 : Int32)) = 0 then
    match mX5_throwing (1 : Int32) (0 : Int32) with
    | (r_60, th_60) =>
      ((0 : Int32), (1 : Int32), mm, en, us, eC, eL, eB, eF, eR, eU, eX, f2, f3, f4, f5, f6, f7, f14, ff, fa, mn, lg, cm, wa)
  else
    match mX5_throwing (0 : Int32) (0 : Int32) with
    | (r_3, th_3) =>
      if (mX5_isOutside L p0) = 0 then
        match (mEF f1 eC eL eB eU p0 en 0 none) with
        | none =>
          if (p1 - p1 / (3 : Int32) * (3 : Int32)) = (1 : Int32) then
            match mWk L mm f1 mr mh f8 fa lg cm wa p0 p1 with
            | (r_19, ff_19, fa_19, mn_19, lg_19, cm_19, wa_19) =>
              if r_19 = 0 then
                match mX5_told f7 ff_19 fa_19 cm_19 r_19 with
                | (r_21, f2_21, f3_21, f7_21) =>
                  (r_21, (0 : Int32), mm, en, us, eC, eL, eB, eF, eR, eU, eX, f2_21, f3_21, f4 + (nI mn_19), f5, f6 + (1 : Int32), f7_21, f14, ff_19, fa_19, mn_19, lg_19, cm_19, wa_19)
              else
                match mMarkM mn_19 wa_19 p1 (mMarkL wa_19 mn_19 0 mm) with
                | mm_22 =>
                  match mKeep N f1 lg_19 (p0 >>> (((8 : Int32) + ((4 : Int32) * lg_19)) &&& 31)) (mm_22 (wa_19 (mn_19 - 1)).toNatClampNeg) us f14 (mK1 f1 lg_19 (p0 >>> (((8 : Int32) + ((4 : Int32) * lg_19)) &&& 31)) en (en, eC, eL, eB, eF, eR, eU, eX)) with
                  | (en_23, us_23, eC_23, eL_23, eB_23, eF_23, eR_23, eU_23, eX_23, f14_23) =>
                    match mX5_told f7 ff_19 fa_19 cm_19 r_19 with
                    | (r_24, f2_24, f3_24, f7_24) =>
                      (r_24, (0 : Int32), mm_22, en_23, us_23, eC_23, eL_23, eB_23, eF_23, eR_23, eU_23, eX_23, f2_24, f3_24, f4 + (nI mn_19), f5, f6 + (1 : Int32), f7_24, f14_23, ff_19, fa_19, mn_19, lg_19, cm_19, wa_19)
          else
            match mWk L mm f1 mr mh f8 fa lg cm wa p0 p1 with
            | (r_12, ff_12, fa_12, mn_12, lg_12, cm_12, wa_12) =>
              if r_12 = 0 then
                match mX5_told f7 ff_12 fa_12 cm_12 r_12 with
                | (r_14, f2_14, f3_14, f7_14) =>
                  (r_14, (0 : Int32), mm, en, us, eC, eL, eB, eF, eR, eU, eX, f2_14, f3_14, f4 + (nI mn_12), f5, f6 + (1 : Int32), f7_14, f14, ff_12, fa_12, mn_12, lg_12, cm_12, wa_12)
              else
                match mMarkM mn_12 wa_12 p1 (mMarkL wa_12 mn_12 0 mm) with
                | mm_15 =>
                  match mKeep N f1 lg_12 (p0 >>> (((8 : Int32) + ((4 : Int32) * lg_12)) &&& 31)) (mm_15 (wa_12 (mn_12 - 1)).toNatClampNeg) us f14 (mK1 f1 lg_12 (p0 >>> (((8 : Int32) + ((4 : Int32) * lg_12)) &&& 31)) en (en, eC, eL, eB, eF, eR, eU, eX)) with
                  | (en_16, us_16, eC_16, eL_16, eB_16, eF_16, eR_16, eU_16, eX_16, f14_16) =>
                    match mX5_told f7 ff_12 fa_12 cm_12 r_12 with
                    | (r_17, f2_17, f3_17, f7_17) =>
                      (r_17, (0 : Int32), mm_15, en_16, us_16, eC_16, eL_16, eB_16, eF_16, eR_16, eU_16, eX_16, f2_17, f3_17, f4 + (nI mn_12), f5, f6 + (1 : Int32), f7_17, f14_16, ff_12, fa_12, mn_12, lg_12, cm_12, wa_12)
        | some jf_9 =>
          if (p1 - p1 / (3 : Int32) * (3 : Int32)) = (1 : Int32) then
            if (eX jf_9) = 0 then
              if (mX5_does (eR jf_9) p1) = 0 then
                match mX5_byEntry L mh f8 us eL eF eR eU f5 ff fa cm jf_9 p0 p1 with
                | (r_43, us_43, eU_43, f5_43, ff_43, fa_43, cm_43) =>
                  match mX5_told f7 ff_43 fa_43 cm_43 r_43 with
                  | (r_44, f2_44, f3_44, f7_44) =>
                    (r_44, (0 : Int32), mm, en, us_43, eC, eL, eB, eF, eR, eU_43, eX, f2_44, f3_44, f4, f5_43, f6, f7_44, f14, ff_43, fa_43, mn, lg, cm_43, wa)
              else
                match mWk L mm f1 mr mh f8 fa lg cm wa p0 p1 with
                | (r_37, ff_37, fa_37, mn_37, lg_37, cm_37, wa_37) =>
                  if r_37 = 0 then
                    match mX5_told f7 ff_37 fa_37 cm_37 r_37 with
                    | (r_39, f2_39, f3_39, f7_39) =>
                      (r_39, (0 : Int32), mm, en, us, eC, eL, eB, eF, eR, eU, eX, f2_39, f3_39, f4 + (nI mn_37), f5, f6 + (1 : Int32), f7_39, f14, ff_37, fa_37, mn_37, lg_37, cm_37, wa_37)
                  else
                    match mMarkM mn_37 wa_37 p1 (mMarkL wa_37 mn_37 0 mm) with
                    | mm_40 =>
                      match mKeep N f1 lg_37 (p0 >>> (((8 : Int32) + ((4 : Int32) * lg_37)) &&& 31)) (mm_40 (wa_37 (mn_37 - 1)).toNatClampNeg) us f14 (mK1 f1 lg_37 (p0 >>> (((8 : Int32) + ((4 : Int32) * lg_37)) &&& 31)) en (en, eC, eL, eB, eF, eR, eU, eX)) with
                      | (en_41, us_41, eC_41, eL_41, eB_41, eF_41, eR_41, eU_41, eX_41, f14_41) =>
                        match mX5_told f7 ff_37 fa_37 cm_37 r_37 with
                        | (r_42, f2_42, f3_42, f7_42) =>
                          (r_42, (0 : Int32), mm_40, en_41, us_41, eC_41, eL_41, eB_41, eF_41, eR_41, eU_41, eX_41, f2_42, f3_42, f4 + (nI mn_37), f5, f6 + (1 : Int32), f7_42, f14_41, ff_37, fa_37, mn_37, lg_37, cm_37, wa_37)
            else
              match mX5_byEntry L mh f8 us eL eF eR eU f5 ff fa cm jf_9 p0 p1 with
              | (r_33, us_33, eU_33, f5_33, ff_33, fa_33, cm_33) =>
                match mX5_told f7 ff_33 fa_33 cm_33 r_33 with
                | (r_34, f2_34, f3_34, f7_34) =>
                  (r_34, (0 : Int32), mm, en, us_33, eC, eL, eB, eF, eR, eU_33, eX, f2_34, f3_34, f4, f5_33, f6, f7_34, f14, ff_33, fa_33, mn, lg, cm_33, wa)
          else
            match mX5_byEntry L mh f8 us eL eF eR eU f5 ff fa cm jf_9 p0 p1 with
            | (r_28, us_28, eU_28, f5_28, ff_28, fa_28, cm_28) =>
              match mX5_told f7 ff_28 fa_28 cm_28 r_28 with
              | (r_29, f2_29, f3_29, f7_29) =>
                (r_29, (0 : Int32), mm, en, us_28, eC, eL, eB, eF, eR, eU_28, eX, f2_29, f3_29, f4, f5_28, f6, f7_29, f14, ff_28, fa_28, mn, lg, cm_28, wa)
      else
        if (p1 - p1 / (3 : Int32) * (3 : Int32)) = (1 : Int32) then
          match mWk L mm f1 mr mh f8 fa lg cm wa p0 p1 with
          | (r_54, ff_54, fa_54, mn_54, lg_54, cm_54, wa_54) =>
            if r_54 = 0 then
              match mX5_told f7 ff_54 fa_54 cm_54 r_54 with
              | (r_56, f2_56, f3_56, f7_56) =>
                (r_56, (0 : Int32), mm, en, us, eC, eL, eB, eF, eR, eU, eX, f2_56, f3_56, f4 + (nI mn_54), f5, f6 + (1 : Int32), f7_56, f14, ff_54, fa_54, mn_54, lg_54, cm_54, wa_54)
            else
              match mMarkM mn_54 wa_54 p1 (mMarkL wa_54 mn_54 0 mm) with
              | mm_57 =>
                match mKeep N f1 lg_54 (p0 >>> (((8 : Int32) + ((4 : Int32) * lg_54)) &&& 31)) (mm_57 (wa_54 (mn_54 - 1)).toNatClampNeg) us f14 (mK1 f1 lg_54 (p0 >>> (((8 : Int32) + ((4 : Int32) * lg_54)) &&& 31)) en (en, eC, eL, eB, eF, eR, eU, eX)) with
                | (en_58, us_58, eC_58, eL_58, eB_58, eF_58, eR_58, eU_58, eX_58, f14_58) =>
                  match mX5_told f7 ff_54 fa_54 cm_54 r_54 with
                  | (r_59, f2_59, f3_59, f7_59) =>
                    (r_59, (0 : Int32), mm_57, en_58, us_58, eC_58, eL_58, eB_58, eF_58, eR_58, eU_58, eX_58, f2_59, f3_59, f4 + (nI mn_54), f5, f6 + (1 : Int32), f7_59, f14_58, ff_54, fa_54, mn_54, lg_54, cm_54, wa_54)
        else
          match mWk L mm f1 mr mh f8 fa lg cm wa p0 p1 with
          | (r_47, ff_47, fa_47, mn_47, lg_47, cm_47, wa_47) =>
            if r_47 = 0 then
              match mX5_told f7 ff_47 fa_47 cm_47 r_47 with
              | (r_49, f2_49, f3_49, f7_49) =>
                (r_49, (0 : Int32), mm, en, us, eC, eL, eB, eF, eR, eU, eX, f2_49, f3_49, f4 + (nI mn_47), f5, f6 + (1 : Int32), f7_49, f14, ff_47, fa_47, mn_47, lg_47, cm_47, wa_47)
            else
              match mMarkM mn_47 wa_47 p1 (mMarkL wa_47 mn_47 0 mm) with
              | mm_50 =>
                match mKeep N f1 lg_47 (p0 >>> (((8 : Int32) + ((4 : Int32) * lg_47)) &&& 31)) (mm_50 (wa_47 (mn_47 - 1)).toNatClampNeg) us f14 (mK1 f1 lg_47 (p0 >>> (((8 : Int32) + ((4 : Int32) * lg_47)) &&& 31)) en (en, eC, eL, eB, eF, eR, eU, eX)) with
                | (en_51, us_51, eC_51, eL_51, eB_51, eF_51, eR_51, eU_51, eX_51, f14_51) =>
                  match mX5_told f7 ff_47 fa_47 cm_47 r_47 with
                  | (r_52, f2_52, f3_52, f7_52) =>
                    (r_52, (0 : Int32), mm_50, en_51, us_51, eC_51, eL_51, eB_51, eF_51, eR_51, eU_51, eX_51, f2_52, f3_52, f4 + (nI mn_47), f5, f6 + (1 : Int32), f7_52, f14_51, ff_47, fa_47, mn_47, lg_47, cm_47, wa_47)
set_option maxHeartbeats 4000000 in
set_option maxRecDepth 100000 in
theorem c_X5_walk (l : Launch) (dC : Nat → ClassId) (dI : Nat → Nat → Nat) (ga : Nat → Nat) (gk : Nat → ClassId) (th : Int32) (L : Nat) (N : Nat) (mm : Nat → Int64) (f1 : Int32) (mr : Nat → Int32) (mh : Nat → Int32) (f8 : Int32) (en : Nat) (us : Nat) (eC : Nat → Int32) (eL : Nat → Int32) (eB : Nat → Int32) (eF : Nat → Int32) (eR : Nat → Int32) (eU : Nat → Int32) (eX : Nat → Int32) (f2 : Int32) (f3 : Int32) (f4 : Int32) (f5 : Int32) (f6 : Int32) (f7 : Int32) (f14 : Int32) (ff : Int32) (fa : Int32) (mn : Nat) (lg : Int32) (cm : Int32) (wa : Nat → Int32)  (sz : Nat) (p0 : Int32) (p1 : Int32) (hL1 : 1 ≤ L) (hL4 : L ≤ 4) (hf1 : vp_in f1 4) (hen : en ≤ N) (h0N : 0 < N) (hN32 : N ≤ 32) (hzx0 : ∀ i, ZB (eX i)) : Met l yX5_walk (wX5_walk :: AW) ({ frames := 4, cells := 0, slots := 0, locals := 96 }) (va_Pc [.ref (ga 0), .int p0, .int p1] (CPrQ dC dI (MWl ga gk th L N mm f1 mr mh f8 en us eC eL eB eF eR eU eX f2 f3 f4 f5 f6 f7 f14 ff fa mn lg cm wa) [(gk 0, .long), (gk 1, .int), (gk 2, .int), (gk 3, .int), (gk 4, .int), (gk 5, .int), (gk 6, .int), (gk 7, .int), (gk 8, .int), (gk 9, .boolean), (gk 10, .int)] sz)) (va_Qi (fun (r : Int32) (u : Int32 × (Nat → Int64) × Nat × Nat × (Nat → Int32) × (Nat → Int32) × (Nat → Int32) × (Nat → Int32) × (Nat → Int32) × (Nat → Int32) × (Nat → Int32) × Int32 × Int32 × Int32 × Int32 × Int32 × Int32 × Int32 × Int32 × Int32 × Nat × Int32 × Int32 × (Nat → Int32)) => (r, u) = mX5_walk L N mm f1 mr mh f8 en us eC eL eB eF eR eU eX f2 f3 f4 f5 f6 f7 f14 ff fa mn lg cm wa p0 p1) (fun (u : Int32 × (Nat → Int64) × Nat × Nat × (Nat → Int32) × (Nat → Int32) × (Nat → Int32) × (Nat → Int32) × (Nat → Int32) × (Nat → Int32) × (Nat → Int32) × Int32 × Int32 × Int32 × Int32 × Int32 × Int32 × Int32 × Int32 × Int32 × Nat × Int32 × Int32 × (Nat → Int32)) (t : State) => match u with | (th', mm', en', us', eC', eL', eB', eF', eR', eU', eX', f2', f3', f4', f5', f6', f7', f14', ff', fa', mn', lg', cm', wa') => va_P (dC, dI) vwCl (MWl ga gk th' L N mm' f1 mr mh f8 en' us' eC' eL' eB' eF' eR' eU' eX' f2' f3' f4' f5' f6' f7' f14' ff' fa' mn' lg' cm' wa') t.heap ∧ va_K (dC, dI) vwCl [(gk 0, .long), (gk 1, .int), (gk 2, .int), (gk 3, .int), (gk 4, .int), (gk 5, .int), (gk 6, .int), (gk 7, .int), (gk 8, .int), (gk 9, .boolean), (gk 10, .int)] t ∧ va_D (va_A (MWl ga gk th L N mm f1 mr mh f8 en us eC eL eB eF eR eU eX f2 f3 f4 f5 f6 f7 f14 ff fa mn lg cm wa) sz) (MWl ga gk th' L N mm' f1 mr mh f8 en' us' eC' eL' eB' eF' eR' eU' eX' f2' f3' f4' f5' f6' f7' f14' ff' fa' mn' lg' cm' wa')) (va_A (MWl ga gk th L N mm f1 mr mh f8 en us eC eL eB eF eR eU eX f2 f3 f4 f5 f6 f7 f14 ff fa mn lg cm wa) sz)) 0 0 (va_A (MWl ga gk th L N mm f1 mr mh f8 en us eC eL eB eF eR eU eX f2 f3 f4 f5 f6 f7 f14 ff fa mn lg cm wa) sz) := by
  refine cx_of (cc := cX5_walk) (maxL := 6) (ret := some .int) (by decide) rfl (Nat.le_of_ble_eq_true rfl) ?_
  intro p e s m below meth c ls hx hb hr hts hown hlocks hml hnm hl hB
  have hta : ∀ w ∈ AW, w.before [.ref (ga 0), .int p0, .int p1].toArray s = true := fun w h => hts w (List.mem_cons_of_mem _ h)
  have hl : lv_has ls 6 [(0, .ref (ga 0)), (1, .int p0), (2, .int p1)] := hl
  have hown : s.vm.findClass RX5 = some m.cls := hown
  obtain ⟨rfl, ⟨hP, hK, hN⟩, hD0⟩ := hB
  have hD := hD0.self (sz := s.heap.size)
  generalize hAe : va_A (MWl ga gk th L N mm f1 mr mh f8 en us eC eL eB eF eR eU eX f2 f3 f4 f5 f6 f7 f14 ff fa mn lg cm wa) s.heap.size = A at hD ⊢
  have hA : ∀ q : Nat, s.heap.size ≤ q → A q := fun q h => by rw [← hAe]; exact Or.inr h
  have hS : va_S A s.heap s.heap [] := va_S.rf
  refine lv_aload_n hx hb dX5_walk_0 rfl (lv_at hl 0 rfl) ?_
  refine lv_iload_n hx hb dX5_walk_1 rfl (lv_at hl 2 rfl) ?_
  refine lv_bipush (v := 6) hx hb dX5_walk_2 (by decide) ?_
  refine cx_callSi (va_runS (As := [.int p1, .int (6 : Int32)]) (rest := [.ref (ga 0)]) ⟨hx, hb, hml, hown, hta⟩ (c_X5_isOf l p1 (6 : Int32)) (va_cwS 2 hta (gS aw_611 aw_612 aw_43 aw_613) rfl rfl rfl (by decide +kernel) ⟨Nat.le_of_ble_eq_true rfl, Nat.le_of_ble_eq_true rfl⟩) cx_pre0 rfl rfl hl.1 rfl (lv_room (Nat.le_of_ble_eq_true rfl)) dX5_walk_4 ⟨Nat.le_of_ble_eq_true rfl, Nat.le_of_ble_eq_true rfl⟩) (fun r hw_1 => ?_)
  subst hw_1
  refine lv_if_ne (tgt := 14) hx hb dX5_walk_7 (by decide) (fun c_7_1 => ?_) (fun c_7_1 => ?_)
  · refine lv_iconst (v := 0) hx hb dX5_walk_14 (by decide) ?_
    refine lv_iconst (v := 0) hx hb dX5_walk_15 (by decide) ?_
    have hFc : ∀ q, va_A (MWl ga gk th L N mm f1 mr mh f8 en us eC eL eB eF eR eU eX f2 f3 f4 f5 f6 f7 f14 ff fa mn lg cm wa) s.heap.size q → A q := cx_free hD hS hA
    refine va_calli (va_runV (As := [.int (0 : Int32), .int (0 : Int32)]) (rest := []) ⟨hx, hb, hml, hown, hta⟩ (c_X5_throwing l dC dI ga gk th L N mm f1 mr mh f8 en us eC eL eB eF eR eU eX f2 f3 f4 f5 f6 f7 f14 ff fa mn lg cm wa s.heap.size (0 : Int32) (0 : Int32)) (cwV 2 hta (gV aw_614 aw_616 aw_20 aw_43 aw_617) rfl rfl rfl (by decide +kernel) ⟨Nat.le_of_ble_eq_true rfl, Nat.le_of_ble_eq_true rfl⟩) (cx_preVQ hK hP hN (va_recv hK hP (ci := 5) (q0 := 0) rfl rfl) hD) rfl rfl hl.1 rfl (lv_room (Nat.le_of_ble_eq_true rfl)) dX5_walk_16 ⟨Nat.le_of_ble_eq_true rfl, Nat.le_of_ble_eq_true rfl⟩) hS (fun q _ h => hFc q h) hFc (fun r_3 u t9 H1 locs ht hvm hw_3 hB hz1 hk1 hS => ?_)
    obtain ⟨th_3, rfl⟩ : ∃ z, z = u := ⟨_, rfl⟩
    obtain ⟨hP, hK1, hD1⟩ := hB
    rw [ht] at hP
    have hD := hD1.weaken (fun _ _ _ h => hFc _ h)
    clear hFc hz1 hk1 hK1 hD1 ht hvm
    generalize H1 = H at hP hS ⊢
    have hP : va_P (dC, dI) vwCl (MWl ga gk th_3 L N mm f1 mr mh f8 en us eC eL eB eF eR eU eX f2 f3 f4 f5 f6 f7 f14 ff fa mn lg cm wa) H := hP
    have hD : va_D A (MWl ga gk th_3 L N mm f1 mr mh f8 en us eC eL eB eF eR eU eX f2 f3 f4 f5 f6 f7 f14 ff fa mn lg cm wa) := hD
    obtain ⟨rfl, rfl⟩ : r_3 = (0 : Int32) ∧ th_3 = (0 : Int32) := by
      have h9 := hw_3
      unfold mX5_throwing at h9
      cases h9
      exact ⟨rfl, rfl⟩
    refine lv_if_eq (tgt := 24) hx hb dX5_walk_19 (by decide) (fun c_19_3 => ?_) (fun c_19_3 => ?_)
    · refine lv_aload_n hx hb dX5_walk_24 rfl (lv_at hl 0 rfl) ?_
      refine lv_iload_n hx hb dX5_walk_25 rfl (lv_at hl 1 rfl) ?_
      refine cx_callSi (va_runV (As := [.int p0]) (rest := []) ⟨hx, hb, hml, hown, hta⟩ (c_X5_isOutside l dC dI ga gk (0 : Int32) L N mm f1 mr mh f8 en us eC eL eB eF eR eU eX f2 f3 f4 f5 f6 f7 f14 ff fa mn lg cm wa p0) (cwV 1 hta (gV aw_643 aw_645 aw_21 aw_43 aw_646) rfl rfl rfl (by decide +kernel) ⟨Nat.le_of_ble_eq_true rfl, Nat.le_of_ble_eq_true rfl⟩) (cx_preVS hK hP hN (va_recv hK hP (ci := 5) (q0 := 0) rfl rfl)) rfl rfl hl.1 rfl (lv_room (Nat.le_of_ble_eq_true rfl)) dX5_walk_26 ⟨Nat.le_of_ble_eq_true rfl, Nat.le_of_ble_eq_true rfl⟩) (fun r hw_5 => ?_)
      subst hw_5
      refine lv_if_eq (tgt := 36) hx hb dX5_walk_29 (by decide) (fun c_29_5 => ?_) (fun c_29_5 => ?_)
      · refine lv_aload_n hx hb dX5_walk_36 rfl (lv_at hl 0 rfl) ?_
        refine lv_iload_n hx hb dX5_walk_37 rfl (lv_at hl 1 rfl) ?_
        refine cx_callSi (va_runV (As := [.int p0]) (rest := []) ⟨hx, hb, hml, hown, hta⟩ (c_X5_entryFor l dC dI ga gk (0 : Int32) L N mm f1 mr mh f8 en us eC eL eB eF eR eU eX f2 f3 f4 f5 f6 f7 f14 ff fa mn lg cm wa p0 hen hN32) (cwV 1 hta (gV aw_647 aw_649 aw_22 aw_43 aw_650) rfl rfl rfl (by decide +kernel) ⟨Nat.le_of_ble_eq_true rfl, Nat.le_of_ble_eq_true rfl⟩) (cx_preVS hK hP hN (va_recv hK hP (ci := 5) (q0 := 0) rfl rfl)) rfl rfl hl.1 rfl (lv_room (Nat.le_of_ble_eq_true rfl)) dX5_walk_38 ⟨Nat.le_of_ble_eq_true rfl, Nat.le_of_ble_eq_true rfl⟩) (fun r hw_7 => ?_)
        subst hw_7
        rcases hfo_8 : (mEF f1 eC eL eB eU p0 en 0 none) with _ | jf_9
        · dsimp only [optI]
          refine lv_istore_n (lv' := [(3, .int (-1 : Int32)), (0, .ref (ga 0)), (1, .int p0), (2, .int p1)]) hx hb dX5_walk_41 rfl hl (by decide) rfl (fun ls hl => ?_)
          refine lv_iload_n hx hb dX5_walk_42 rfl (lv_at hl 3 rfl) ?_
          refine lv_iconst (v := 3) hx hb dX5_walk_43 (by decide) ?_
          refine lv_irem hx hb dX5_walk_44 (by decide) ?_
          refine lv_iconst (v := 1) hx hb dX5_walk_45 (by decide) ?_
          refine lv_icmp_ne (tgt := 53) hx hb dX5_walk_46 (by decide) (fun c_46_9 => ?_) (fun c_46_9 => ?_)
          · refine lv_iconst (v := 0) hx hb dX5_walk_53 (by decide) ?_
            refine lv_istore (lv' := [(4, .int (0 : Int32)), (3, .int (-1 : Int32)), (0, .ref (ga 0)), (1, .int p0), (2, .int p1)]) hx hb dX5_walk_54 hl (by decide) rfl (fun ls hl => ?_)
            refine lv_iload_n hx hb dX5_walk_56 rfl (lv_at hl 1 rfl) ?_
            refine lv_if_lt (tgt := 99) hx hb dX5_walk_57 (by decide) (fun c_57_10 => ?_) (fun c_57_10 => ?_)
            · refine lv_aload_n hx hb dX5_walk_99 rfl (lv_at hl 2 rfl) ?_
              refine lv_dup hx hb dX5_walk_100 rfl ?_
              refine va_get (D := (dC, dI)) (ci := 5) (v := .int f6) (C := RX5) (T := TX5) (N := 30) hx hb hta inA_X5 hown hK hP 0 rfl rfl 21 (by decide) (hta _ aw_532) (fun _ h9 => h9) rfl dX5_walk_101 ?_
              refine lv_iconst (v := 1) hx hb dX5_walk_104 (by decide) ?_
              refine lv_iadd hx hb dX5_walk_105 ?_
              refine va_put (D := (dC, dI)) (ci := 5) (v := .int (f6 + (1 : Int32))) (ty := .int) (C := RX5) (T := TX5) (N := 30) hx hb hta inA_X5 tyX5 tyX5_ok nmX5 hown hK hP hD hS 0 rfl rfl 21 (by decide) (hta _ aw_532) (fun _ h9 => h9) rfl (by decide +kernel) rfl rfl (Nat.le_of_ble_eq_true rfl) dX5_walk_106 (fun H locs hP hD hS => ?_)
              have hP : va_P (dC, dI) vwCl (MWl ga gk (0 : Int32) L N mm f1 mr mh f8 en us eC eL eB eF eR eU eX f2 f3 f4 f5 (f6 + (1 : Int32)) f7 f14 ff fa mn lg cm wa) H := hP
              have hD : va_D A (MWl ga gk (0 : Int32) L N mm f1 mr mh f8 en us eC eL eB eF eR eU eX f2 f3 f4 f5 (f6 + (1 : Int32)) f7 f14 ff fa mn lg cm wa) := hD
              refine lv_aload_n hx hb dX5_walk_109 rfl (lv_at hl 2 rfl) ?_
              refine lv_iload_n hx hb dX5_walk_110 rfl (lv_at hl 3 rfl) ?_
              refine lv_iload_n hx hb dX5_walk_111 rfl (lv_at hl 4 rfl) ?_
              have hFc : ∀ q, va_A (MWl ga gk (0 : Int32) L N mm f1 mr mh f8 en us eC eL eB eF eR eU eX f2 f3 f4 f5 (f6 + (1 : Int32)) f7 f14 ff fa mn lg cm wa) H.size q → A q := cx_free hD hS hA
              refine va_calli (va_runV (As := [.int p0, .int p1]) (rest := []) ⟨hx, hb, hml, hown, hta⟩ (c_X5_walks l dC dI ga gk (0 : Int32) L N mm f1 mr mh f8 en us eC eL eB eF eR eU eX f2 f3 f4 f5 (f6 + (1 : Int32)) f7 f14 ff fa mn lg cm wa H.size p0 p1 hL1 hL4 hf1) (cwV 2 hta (gV aw_685 aw_687 aw_30 aw_43 aw_688) rfl rfl rfl (by decide +kernel) ⟨Nat.le_of_ble_eq_true rfl, Nat.le_of_ble_eq_true rfl⟩) (cx_preVQ hK hP hN (va_recv hK hP (ci := 5) (q0 := 0) rfl rfl) hD) rfl rfl hl.1 rfl (lv_room (Nat.le_of_ble_eq_true rfl)) dX5_walk_112 ⟨Nat.le_of_ble_eq_true rfl, Nat.le_of_ble_eq_true rfl⟩) hS (fun q _ h => hFc q h) hFc (fun r_12 u t9 H1 locs ht hvm hw_12 hB hz1 hk1 hS => ?_)
              obtain ⟨ff_12, fa_12, mn_12, lg_12, cm_12, wa_12⟩ := u
              obtain ⟨hP, hK1, hD1⟩ := hB
              rw [ht] at hP
              have hD := hD1.weaken (fun _ _ _ h => hFc _ h)
              clear hFc hz1 hk1 hK1 hD1 ht hvm
              generalize H1 = H at hP hS ⊢
              have hP : va_P (dC, dI) vwCl (MWl ga gk (0 : Int32) L N mm f1 mr mh f8 en us eC eL eB eF eR eU eX f2 f3 f4 f5 (f6 + (1 : Int32)) f7 f14 ff_12 fa_12 mn_12 lg_12 cm_12 wa_12) H := hP
              have hD : va_D A (MWl ga gk (0 : Int32) L N mm f1 mr mh f8 en us eC eL eB eF eR eU eX f2 f3 f4 f5 (f6 + (1 : Int32)) f7 f14 ff_12 fa_12 mn_12 lg_12 cm_12 wa_12) := hD
              obtain ⟨hmn49, hwa9, hgd9⟩ := wk_ok hw_12 hL4
              refine lv_istore (lv' := [(5, .int r_12), (4, .int (0 : Int32)), (3, .int (-1 : Int32)), (0, .ref (ga 0)), (1, .int p0), (2, .int p1)]) hx hb dX5_walk_115 hl (by decide) rfl (fun ls hl => ?_)
              refine lv_aload_n hx hb dX5_walk_117 rfl (lv_at hl 3 rfl) ?_
              refine lv_dup hx hb dX5_walk_118 rfl ?_
              refine va_get (D := (dC, dI)) (ci := 5) (v := .int f4) (C := RX5) (T := TX5) (N := 30) hx hb hta inA_X5 hown hK hP 0 rfl rfl 19 (by decide) (hta _ aw_530) (fun _ h9 => h9) rfl dX5_walk_119 ?_
              refine lv_aload_n hx hb dX5_walk_122 rfl (lv_at hl 3 rfl) ?_
              refine va_get (D := (dC, dI)) (ci := 5) (v := .int (nI mn_12)) (C := RX5) (T := TX5) (N := 30) hx hb hta inA_X5 hown hK hP 0 rfl rfl 26 (by decide) (hta _ aw_537) (fun _ h9 => h9) rfl dX5_walk_123 ?_
              refine lv_iadd hx hb dX5_walk_126 ?_
              refine va_put (D := (dC, dI)) (ci := 5) (v := .int (f4 + (nI mn_12))) (ty := .int) (C := RX5) (T := TX5) (N := 30) hx hb hta inA_X5 tyX5 tyX5_ok nmX5 hown hK hP hD hS 0 rfl rfl 19 (by decide) (hta _ aw_530) (fun _ h9 => h9) rfl (by decide +kernel) rfl rfl (Nat.le_of_ble_eq_true rfl) dX5_walk_127 (fun H locs hP hD hS => ?_)
              have hP : va_P (dC, dI) vwCl (MWl ga gk (0 : Int32) L N mm f1 mr mh f8 en us eC eL eB eF eR eU eX f2 f3 (f4 + (nI mn_12)) f5 (f6 + (1 : Int32)) f7 f14 ff_12 fa_12 mn_12 lg_12 cm_12 wa_12) H := hP
              have hD : va_D A (MWl ga gk (0 : Int32) L N mm f1 mr mh f8 en us eC eL eB eF eR eU eX f2 f3 (f4 + (nI mn_12)) f5 (f6 + (1 : Int32)) f7 f14 ff_12 fa_12 mn_12 lg_12 cm_12 wa_12) := hD
              refine lv_iload hx hb dX5_walk_130 (lv_at hl 0 rfl) ?_
              refine lv_if_eq (tgt := 145) hx hb dX5_walk_132 (by decide) (fun c_132_12 => ?_) (fun c_132_12 => ?_)
              · refine lv_aload_n hx hb dX5_walk_145 rfl (lv_at hl 3 rfl) ?_
                refine lv_iload hx hb dX5_walk_146 (lv_at hl 0 rfl) ?_
                have hFc : ∀ q, va_A (MWl ga gk (0 : Int32) L N mm f1 mr mh f8 en us eC eL eB eF eR eU eX f2 f3 (f4 + (nI mn_12)) f5 (f6 + (1 : Int32)) f7 f14 ff_12 fa_12 mn_12 lg_12 cm_12 wa_12) H.size q → A q := cx_free hD hS hA
                refine va_calli (va_runV (As := [.int r_12]) (rest := []) ⟨hx, hb, hml, hown, hta⟩ (c_X5_told l dC dI ga gk (0 : Int32) L N mm f1 mr mh f8 en us eC eL eB eF eR eU eX f2 f3 (f4 + (nI mn_12)) f5 (f6 + (1 : Int32)) f7 f14 ff_12 fa_12 mn_12 lg_12 cm_12 wa_12 H.size r_12) (cwV 1 hta (gV aw_681 aw_683 aw_29 aw_43 aw_684) rfl rfl rfl (by decide +kernel) ⟨Nat.le_of_ble_eq_true rfl, Nat.le_of_ble_eq_true rfl⟩) (cx_preVQ hK hP hN (va_recv hK hP (ci := 5) (q0 := 0) rfl rfl) hD) rfl rfl hl.1 rfl (lv_room (Nat.le_of_ble_eq_true rfl)) dX5_walk_148 ⟨Nat.le_of_ble_eq_true rfl, Nat.le_of_ble_eq_true rfl⟩) hS (fun q _ h => hFc q h) hFc (fun r_14 u t9 H1 locs ht hvm hw_14 hB hz1 hk1 hS => ?_)
                obtain ⟨f2_14, f3_14, f7_14⟩ := u
                obtain ⟨hP, hK1, hD1⟩ := hB
                rw [ht] at hP
                have hD := hD1.weaken (fun _ _ _ h => hFc _ h)
                clear hFc hz1 hk1 hK1 hD1 ht hvm
                generalize H1 = H at hP hS ⊢
                have hP : va_P (dC, dI) vwCl (MWl ga gk (0 : Int32) L N mm f1 mr mh f8 en us eC eL eB eF eR eU eX f2_14 f3_14 (f4 + (nI mn_12)) f5 (f6 + (1 : Int32)) f7_14 f14 ff_12 fa_12 mn_12 lg_12 cm_12 wa_12) H := hP
                have hD : va_D A (MWl ga gk (0 : Int32) L N mm f1 mr mh f8 en us eC eL eB eF eR eU eX f2_14 f3_14 (f4 + (nI mn_12)) f5 (f6 + (1 : Int32)) f7_14 f14 ff_12 fa_12 mn_12 lg_12 cm_12 wa_12) := hD
                exact W.iret (v := r_14) hx hb hr (fun t ht hW => ⟨⟨r_14, ((0 : Int32), mm, en, us, eC, eL, eB, eF, eR, eU, eX, f2_14, f3_14, f4 + (nI mn_12), f5, f6 + (1 : Int32), f7_14, f14, ff_12, fa_12, mn_12, lg_12, cm_12, wa_12), rfl, (by unfold mX5_walk; rewrite [if_neg c_7_1]; rewrite [← hw_3]; (try dsimp only); rewrite [if_pos c_29_5]; rewrite [hfo_8]; (try dsimp only); rewrite [if_neg c_46_9]; rewrite [← hw_12]; (try dsimp only); rewrite [if_pos c_132_12]; rewrite [← hw_14]; (try dsimp only); (first | done | rfl)), by rw [ht]; exact hP, va_K.moved hW.alike hK, hD⟩, hS.F ht⟩) hS.2.2 dX5_walk_151
              · have hmn9 := (hgd9 c_132_12).1
                refine lv_aload_n hx hb dX5_walk_135 rfl (lv_at hl 3 rfl) ?_
                refine lv_iload_n hx hb dX5_walk_136 rfl (lv_at hl 5 rfl) ?_
                have hFc : ∀ q, va_A (MWl ga gk (0 : Int32) L N mm f1 mr mh f8 en us eC eL eB eF eR eU eX f2 f3 (f4 + (nI mn_12)) f5 (f6 + (1 : Int32)) f7 f14 ff_12 fa_12 mn_12 lg_12 cm_12 wa_12) H.size q → A q := cx_free hD hS hA
                refine va_callv (va_runV (As := [.int p1]) (rest := []) ⟨hx, hb, hml, hown, hta⟩ (c_X5_mark l dC dI ga gk (0 : Int32) L N mm f1 mr mh f8 en us eC eL eB eF eR eU eX f2 f3 (f4 + (nI mn_12)) f5 (f6 + (1 : Int32)) f7 f14 ff_12 fa_12 mn_12 lg_12 cm_12 wa_12 H.size p1 hmn9 hmn49 hwa9) (cwV 1 hta (gV aw_701 aw_703 aw_32 aw_43 aw_704) rfl rfl rfl (by decide +kernel) ⟨Nat.le_of_ble_eq_true rfl, Nat.le_of_ble_eq_true rfl⟩) (cx_preVQ hK hP hN (va_recv hK hP (ci := 5) (q0 := 0) rfl rfl) hD) rfl rfl hl.1 rfl (lv_room (Nat.le_of_ble_eq_true rfl)) dX5_walk_137 ⟨Nat.le_of_ble_eq_true rfl, Nat.le_of_ble_eq_true rfl⟩) hS (fun q _ h => hFc q h) hFc (fun u t9 H1 locs ht hvm hw_15 hB hz1 hk1 hS => ?_)
                obtain ⟨mm_15, rfl⟩ : ∃ z, z = u := ⟨_, rfl⟩
                obtain ⟨hP, hK1, hD1⟩ := hB
                rw [ht] at hP
                have hD := hD1.weaken (fun _ _ _ h => hFc _ h)
                clear hFc hz1 hk1 hK1 hD1 ht hvm
                generalize H1 = H at hP hS ⊢
                have hP : va_P (dC, dI) vwCl (MWl ga gk (0 : Int32) L N mm_15 f1 mr mh f8 en us eC eL eB eF eR eU eX f2 f3 (f4 + (nI mn_12)) f5 (f6 + (1 : Int32)) f7 f14 ff_12 fa_12 mn_12 lg_12 cm_12 wa_12) H := hP
                have hD : va_D A (MWl ga gk (0 : Int32) L N mm_15 f1 mr mh f8 en us eC eL eB eF eR eU eX f2 f3 (f4 + (nI mn_12)) f5 (f6 + (1 : Int32)) f7 f14 ff_12 fa_12 mn_12 lg_12 cm_12 wa_12) := hD
                refine lv_aload_n hx hb dX5_walk_140 rfl (lv_at hl 3 rfl) ?_
                refine lv_iload_n hx hb dX5_walk_141 rfl (lv_at hl 4 rfl) ?_
                have hFc : ∀ q, va_A (MWl ga gk (0 : Int32) L N mm_15 f1 mr mh f8 en us eC eL eB eF eR eU eX f2 f3 (f4 + (nI mn_12)) f5 (f6 + (1 : Int32)) f7 f14 ff_12 fa_12 mn_12 lg_12 cm_12 wa_12) H.size q → A q := cx_free hD hS hA
                refine va_callv (va_runV (As := [.int p0]) (rest := []) ⟨hx, hb, hml, hown, hta⟩ (c_X5_keep l dC dI ga gk (0 : Int32) L N mm_15 f1 mr mh f8 en us eC eL eB eF eR eU eX f2 f3 (f4 + (nI mn_12)) f5 (f6 + (1 : Int32)) f7 f14 ff_12 fa_12 mn_12 lg_12 cm_12 wa_12 H.size p0 hen h0N hN32 hmn9 hmn49 (hwa9 _ (by omega)) hzx0) (cwV 1 hta (gV aw_707 aw_709 aw_33 aw_43 aw_710) rfl rfl rfl (by decide +kernel) ⟨Nat.le_of_ble_eq_true rfl, Nat.le_of_ble_eq_true rfl⟩) (cx_preVQ hK hP hN (va_recv hK hP (ci := 5) (q0 := 0) rfl rfl) hD) rfl rfl hl.1 rfl (lv_room (Nat.le_of_ble_eq_true rfl)) dX5_walk_142 ⟨Nat.le_of_ble_eq_true rfl, Nat.le_of_ble_eq_true rfl⟩) hS (fun q _ h => hFc q h) hFc (fun u t9 H1 locs ht hvm hw_16 hB hz1 hk1 hS => ?_)
                obtain ⟨en_16, us_16, eC_16, eL_16, eB_16, eF_16, eR_16, eU_16, eX_16, f14_16⟩ := u
                obtain ⟨hP, hK1, hD1⟩ := hB
                rw [ht] at hP
                have hD := hD1.weaken (fun _ _ _ h => hFc _ h)
                clear hFc hz1 hk1 hK1 hD1 ht hvm
                generalize H1 = H at hP hS ⊢
                have hP : va_P (dC, dI) vwCl (MWl ga gk (0 : Int32) L N mm_15 f1 mr mh f8 en_16 us_16 eC_16 eL_16 eB_16 eF_16 eR_16 eU_16 eX_16 f2 f3 (f4 + (nI mn_12)) f5 (f6 + (1 : Int32)) f7 f14_16 ff_12 fa_12 mn_12 lg_12 cm_12 wa_12) H := hP
                have hD : va_D A (MWl ga gk (0 : Int32) L N mm_15 f1 mr mh f8 en_16 us_16 eC_16 eL_16 eB_16 eF_16 eR_16 eU_16 eX_16 f2 f3 (f4 + (nI mn_12)) f5 (f6 + (1 : Int32)) f7 f14_16 ff_12 fa_12 mn_12 lg_12 cm_12 wa_12) := hD
                refine lv_aload_n hx hb dX5_walk_145 rfl (lv_at hl 3 rfl) ?_
                refine lv_iload hx hb dX5_walk_146 (lv_at hl 0 rfl) ?_
                have hFc : ∀ q, va_A (MWl ga gk (0 : Int32) L N mm_15 f1 mr mh f8 en_16 us_16 eC_16 eL_16 eB_16 eF_16 eR_16 eU_16 eX_16 f2 f3 (f4 + (nI mn_12)) f5 (f6 + (1 : Int32)) f7 f14_16 ff_12 fa_12 mn_12 lg_12 cm_12 wa_12) H.size q → A q := cx_free hD hS hA
                refine va_calli (va_runV (As := [.int r_12]) (rest := []) ⟨hx, hb, hml, hown, hta⟩ (c_X5_told l dC dI ga gk (0 : Int32) L N mm_15 f1 mr mh f8 en_16 us_16 eC_16 eL_16 eB_16 eF_16 eR_16 eU_16 eX_16 f2 f3 (f4 + (nI mn_12)) f5 (f6 + (1 : Int32)) f7 f14_16 ff_12 fa_12 mn_12 lg_12 cm_12 wa_12 H.size r_12) (cwV 1 hta (gV aw_681 aw_683 aw_29 aw_43 aw_684) rfl rfl rfl (by decide +kernel) ⟨Nat.le_of_ble_eq_true rfl, Nat.le_of_ble_eq_true rfl⟩) (cx_preVQ hK hP hN (va_recv hK hP (ci := 5) (q0 := 0) rfl rfl) hD) rfl rfl hl.1 rfl (lv_room (Nat.le_of_ble_eq_true rfl)) dX5_walk_148 ⟨Nat.le_of_ble_eq_true rfl, Nat.le_of_ble_eq_true rfl⟩) hS (fun q _ h => hFc q h) hFc (fun r_17 u t9 H1 locs ht hvm hw_17 hB hz1 hk1 hS => ?_)
                obtain ⟨f2_17, f3_17, f7_17⟩ := u
                obtain ⟨hP, hK1, hD1⟩ := hB
                rw [ht] at hP
                have hD := hD1.weaken (fun _ _ _ h => hFc _ h)
                clear hFc hz1 hk1 hK1 hD1 ht hvm
                generalize H1 = H at hP hS ⊢
                have hP : va_P (dC, dI) vwCl (MWl ga gk (0 : Int32) L N mm_15 f1 mr mh f8 en_16 us_16 eC_16 eL_16 eB_16 eF_16 eR_16 eU_16 eX_16 f2_17 f3_17 (f4 + (nI mn_12)) f5 (f6 + (1 : Int32)) f7_17 f14_16 ff_12 fa_12 mn_12 lg_12 cm_12 wa_12) H := hP
                have hD : va_D A (MWl ga gk (0 : Int32) L N mm_15 f1 mr mh f8 en_16 us_16 eC_16 eL_16 eB_16 eF_16 eR_16 eU_16 eX_16 f2_17 f3_17 (f4 + (nI mn_12)) f5 (f6 + (1 : Int32)) f7_17 f14_16 ff_12 fa_12 mn_12 lg_12 cm_12 wa_12) := hD
                exact W.iret (v := r_17) hx hb hr (fun t ht hW => ⟨⟨r_17, ((0 : Int32), mm_15, en_16, us_16, eC_16, eL_16, eB_16, eF_16, eR_16, eU_16, eX_16, f2_17, f3_17, f4 + (nI mn_12), f5, f6 + (1 : Int32), f7_17, f14_16, ff_12, fa_12, mn_12, lg_12, cm_12, wa_12), rfl, (by unfold mX5_walk; rewrite [if_neg c_7_1]; rewrite [← hw_3]; (try dsimp only); rewrite [if_pos c_29_5]; rewrite [hfo_8]; (try dsimp only); rewrite [if_neg c_46_9]; rewrite [← hw_12]; (try dsimp only); rewrite [if_neg c_132_12]; rewrite [← hw_15]; (try dsimp only); rewrite [← hw_16]; (try dsimp only); rewrite [← hw_17]; (try dsimp only); (first | done | rfl)), by rw [ht]; exact hP, va_K.moved hW.alike hK, hD⟩, hS.F ht⟩) hS.2.2 dX5_walk_151
            · exact absurd (by decide) c_57_10
          · refine lv_iconst (v := 1) hx hb dX5_walk_49 (by decide) ?_
            refine lv_goto (tgt := 54) hx hb dX5_walk_50 (by decide) ?_
            refine lv_istore (lv' := [(4, .int (1 : Int32)), (3, .int (-1 : Int32)), (0, .ref (ga 0)), (1, .int p0), (2, .int p1)]) hx hb dX5_walk_54 hl (by decide) rfl (fun ls hl => ?_)
            refine lv_iload_n hx hb dX5_walk_56 rfl (lv_at hl 1 rfl) ?_
            refine lv_if_lt (tgt := 99) hx hb dX5_walk_57 (by decide) (fun c_57_17 => ?_) (fun c_57_17 => ?_)
            · refine lv_aload_n hx hb dX5_walk_99 rfl (lv_at hl 2 rfl) ?_
              refine lv_dup hx hb dX5_walk_100 rfl ?_
              refine va_get (D := (dC, dI)) (ci := 5) (v := .int f6) (C := RX5) (T := TX5) (N := 30) hx hb hta inA_X5 hown hK hP 0 rfl rfl 21 (by decide) (hta _ aw_532) (fun _ h9 => h9) rfl dX5_walk_101 ?_
              refine lv_iconst (v := 1) hx hb dX5_walk_104 (by decide) ?_
              refine lv_iadd hx hb dX5_walk_105 ?_
              refine va_put (D := (dC, dI)) (ci := 5) (v := .int (f6 + (1 : Int32))) (ty := .int) (C := RX5) (T := TX5) (N := 30) hx hb hta inA_X5 tyX5 tyX5_ok nmX5 hown hK hP hD hS 0 rfl rfl 21 (by decide) (hta _ aw_532) (fun _ h9 => h9) rfl (by decide +kernel) rfl rfl (Nat.le_of_ble_eq_true rfl) dX5_walk_106 (fun H locs hP hD hS => ?_)
              have hP : va_P (dC, dI) vwCl (MWl ga gk (0 : Int32) L N mm f1 mr mh f8 en us eC eL eB eF eR eU eX f2 f3 f4 f5 (f6 + (1 : Int32)) f7 f14 ff fa mn lg cm wa) H := hP
              have hD : va_D A (MWl ga gk (0 : Int32) L N mm f1 mr mh f8 en us eC eL eB eF eR eU eX f2 f3 f4 f5 (f6 + (1 : Int32)) f7 f14 ff fa mn lg cm wa) := hD
              refine lv_aload_n hx hb dX5_walk_109 rfl (lv_at hl 2 rfl) ?_
              refine lv_iload_n hx hb dX5_walk_110 rfl (lv_at hl 3 rfl) ?_
              refine lv_iload_n hx hb dX5_walk_111 rfl (lv_at hl 4 rfl) ?_
              have hFc : ∀ q, va_A (MWl ga gk (0 : Int32) L N mm f1 mr mh f8 en us eC eL eB eF eR eU eX f2 f3 f4 f5 (f6 + (1 : Int32)) f7 f14 ff fa mn lg cm wa) H.size q → A q := cx_free hD hS hA
              refine va_calli (va_runV (As := [.int p0, .int p1]) (rest := []) ⟨hx, hb, hml, hown, hta⟩ (c_X5_walks l dC dI ga gk (0 : Int32) L N mm f1 mr mh f8 en us eC eL eB eF eR eU eX f2 f3 f4 f5 (f6 + (1 : Int32)) f7 f14 ff fa mn lg cm wa H.size p0 p1 hL1 hL4 hf1) (cwV 2 hta (gV aw_685 aw_687 aw_30 aw_43 aw_688) rfl rfl rfl (by decide +kernel) ⟨Nat.le_of_ble_eq_true rfl, Nat.le_of_ble_eq_true rfl⟩) (cx_preVQ hK hP hN (va_recv hK hP (ci := 5) (q0 := 0) rfl rfl) hD) rfl rfl hl.1 rfl (lv_room (Nat.le_of_ble_eq_true rfl)) dX5_walk_112 ⟨Nat.le_of_ble_eq_true rfl, Nat.le_of_ble_eq_true rfl⟩) hS (fun q _ h => hFc q h) hFc (fun r_19 u t9 H1 locs ht hvm hw_19 hB hz1 hk1 hS => ?_)
              obtain ⟨ff_19, fa_19, mn_19, lg_19, cm_19, wa_19⟩ := u
              obtain ⟨hP, hK1, hD1⟩ := hB
              rw [ht] at hP
              have hD := hD1.weaken (fun _ _ _ h => hFc _ h)
              clear hFc hz1 hk1 hK1 hD1 ht hvm
              generalize H1 = H at hP hS ⊢
              have hP : va_P (dC, dI) vwCl (MWl ga gk (0 : Int32) L N mm f1 mr mh f8 en us eC eL eB eF eR eU eX f2 f3 f4 f5 (f6 + (1 : Int32)) f7 f14 ff_19 fa_19 mn_19 lg_19 cm_19 wa_19) H := hP
              have hD : va_D A (MWl ga gk (0 : Int32) L N mm f1 mr mh f8 en us eC eL eB eF eR eU eX f2 f3 f4 f5 (f6 + (1 : Int32)) f7 f14 ff_19 fa_19 mn_19 lg_19 cm_19 wa_19) := hD
              obtain ⟨hmn49, hwa9, hgd9⟩ := wk_ok hw_19 hL4
              refine lv_istore (lv' := [(5, .int r_19), (4, .int (1 : Int32)), (3, .int (-1 : Int32)), (0, .ref (ga 0)), (1, .int p0), (2, .int p1)]) hx hb dX5_walk_115 hl (by decide) rfl (fun ls hl => ?_)
              refine lv_aload_n hx hb dX5_walk_117 rfl (lv_at hl 3 rfl) ?_
              refine lv_dup hx hb dX5_walk_118 rfl ?_
              refine va_get (D := (dC, dI)) (ci := 5) (v := .int f4) (C := RX5) (T := TX5) (N := 30) hx hb hta inA_X5 hown hK hP 0 rfl rfl 19 (by decide) (hta _ aw_530) (fun _ h9 => h9) rfl dX5_walk_119 ?_
              refine lv_aload_n hx hb dX5_walk_122 rfl (lv_at hl 3 rfl) ?_
              refine va_get (D := (dC, dI)) (ci := 5) (v := .int (nI mn_19)) (C := RX5) (T := TX5) (N := 30) hx hb hta inA_X5 hown hK hP 0 rfl rfl 26 (by decide) (hta _ aw_537) (fun _ h9 => h9) rfl dX5_walk_123 ?_
              refine lv_iadd hx hb dX5_walk_126 ?_
              refine va_put (D := (dC, dI)) (ci := 5) (v := .int (f4 + (nI mn_19))) (ty := .int) (C := RX5) (T := TX5) (N := 30) hx hb hta inA_X5 tyX5 tyX5_ok nmX5 hown hK hP hD hS 0 rfl rfl 19 (by decide) (hta _ aw_530) (fun _ h9 => h9) rfl (by decide +kernel) rfl rfl (Nat.le_of_ble_eq_true rfl) dX5_walk_127 (fun H locs hP hD hS => ?_)
              have hP : va_P (dC, dI) vwCl (MWl ga gk (0 : Int32) L N mm f1 mr mh f8 en us eC eL eB eF eR eU eX f2 f3 (f4 + (nI mn_19)) f5 (f6 + (1 : Int32)) f7 f14 ff_19 fa_19 mn_19 lg_19 cm_19 wa_19) H := hP
              have hD : va_D A (MWl ga gk (0 : Int32) L N mm f1 mr mh f8 en us eC eL eB eF eR eU eX f2 f3 (f4 + (nI mn_19)) f5 (f6 + (1 : Int32)) f7 f14 ff_19 fa_19 mn_19 lg_19 cm_19 wa_19) := hD
              refine lv_iload hx hb dX5_walk_130 (lv_at hl 0 rfl) ?_
              refine lv_if_eq (tgt := 145) hx hb dX5_walk_132 (by decide) (fun c_132_19 => ?_) (fun c_132_19 => ?_)
              · refine lv_aload_n hx hb dX5_walk_145 rfl (lv_at hl 3 rfl) ?_
                refine lv_iload hx hb dX5_walk_146 (lv_at hl 0 rfl) ?_
                have hFc : ∀ q, va_A (MWl ga gk (0 : Int32) L N mm f1 mr mh f8 en us eC eL eB eF eR eU eX f2 f3 (f4 + (nI mn_19)) f5 (f6 + (1 : Int32)) f7 f14 ff_19 fa_19 mn_19 lg_19 cm_19 wa_19) H.size q → A q := cx_free hD hS hA
                refine va_calli (va_runV (As := [.int r_19]) (rest := []) ⟨hx, hb, hml, hown, hta⟩ (c_X5_told l dC dI ga gk (0 : Int32) L N mm f1 mr mh f8 en us eC eL eB eF eR eU eX f2 f3 (f4 + (nI mn_19)) f5 (f6 + (1 : Int32)) f7 f14 ff_19 fa_19 mn_19 lg_19 cm_19 wa_19 H.size r_19) (cwV 1 hta (gV aw_681 aw_683 aw_29 aw_43 aw_684) rfl rfl rfl (by decide +kernel) ⟨Nat.le_of_ble_eq_true rfl, Nat.le_of_ble_eq_true rfl⟩) (cx_preVQ hK hP hN (va_recv hK hP (ci := 5) (q0 := 0) rfl rfl) hD) rfl rfl hl.1 rfl (lv_room (Nat.le_of_ble_eq_true rfl)) dX5_walk_148 ⟨Nat.le_of_ble_eq_true rfl, Nat.le_of_ble_eq_true rfl⟩) hS (fun q _ h => hFc q h) hFc (fun r_21 u t9 H1 locs ht hvm hw_21 hB hz1 hk1 hS => ?_)
                obtain ⟨f2_21, f3_21, f7_21⟩ := u
                obtain ⟨hP, hK1, hD1⟩ := hB
                rw [ht] at hP
                have hD := hD1.weaken (fun _ _ _ h => hFc _ h)
                clear hFc hz1 hk1 hK1 hD1 ht hvm
                generalize H1 = H at hP hS ⊢
                have hP : va_P (dC, dI) vwCl (MWl ga gk (0 : Int32) L N mm f1 mr mh f8 en us eC eL eB eF eR eU eX f2_21 f3_21 (f4 + (nI mn_19)) f5 (f6 + (1 : Int32)) f7_21 f14 ff_19 fa_19 mn_19 lg_19 cm_19 wa_19) H := hP
                have hD : va_D A (MWl ga gk (0 : Int32) L N mm f1 mr mh f8 en us eC eL eB eF eR eU eX f2_21 f3_21 (f4 + (nI mn_19)) f5 (f6 + (1 : Int32)) f7_21 f14 ff_19 fa_19 mn_19 lg_19 cm_19 wa_19) := hD
                exact W.iret (v := r_21) hx hb hr (fun t ht hW => ⟨⟨r_21, ((0 : Int32), mm, en, us, eC, eL, eB, eF, eR, eU, eX, f2_21, f3_21, f4 + (nI mn_19), f5, f6 + (1 : Int32), f7_21, f14, ff_19, fa_19, mn_19, lg_19, cm_19, wa_19), rfl, (by unfold mX5_walk; rewrite [if_neg c_7_1]; rewrite [← hw_3]; (try dsimp only); rewrite [if_pos c_29_5]; rewrite [hfo_8]; (try dsimp only); rewrite [if_pos c_46_9]; rewrite [← hw_19]; (try dsimp only); rewrite [if_pos c_132_19]; rewrite [← hw_21]; (try dsimp only); (first | done | rfl)), by rw [ht]; exact hP, va_K.moved hW.alike hK, hD⟩, hS.F ht⟩) hS.2.2 dX5_walk_151
              · have hmn9 := (hgd9 c_132_19).1
                refine lv_aload_n hx hb dX5_walk_135 rfl (lv_at hl 3 rfl) ?_
                refine lv_iload_n hx hb dX5_walk_136 rfl (lv_at hl 5 rfl) ?_
                have hFc : ∀ q, va_A (MWl ga gk (0 : Int32) L N mm f1 mr mh f8 en us eC eL eB eF eR eU eX f2 f3 (f4 + (nI mn_19)) f5 (f6 + (1 : Int32)) f7 f14 ff_19 fa_19 mn_19 lg_19 cm_19 wa_19) H.size q → A q := cx_free hD hS hA
                refine va_callv (va_runV (As := [.int p1]) (rest := []) ⟨hx, hb, hml, hown, hta⟩ (c_X5_mark l dC dI ga gk (0 : Int32) L N mm f1 mr mh f8 en us eC eL eB eF eR eU eX f2 f3 (f4 + (nI mn_19)) f5 (f6 + (1 : Int32)) f7 f14 ff_19 fa_19 mn_19 lg_19 cm_19 wa_19 H.size p1 hmn9 hmn49 hwa9) (cwV 1 hta (gV aw_701 aw_703 aw_32 aw_43 aw_704) rfl rfl rfl (by decide +kernel) ⟨Nat.le_of_ble_eq_true rfl, Nat.le_of_ble_eq_true rfl⟩) (cx_preVQ hK hP hN (va_recv hK hP (ci := 5) (q0 := 0) rfl rfl) hD) rfl rfl hl.1 rfl (lv_room (Nat.le_of_ble_eq_true rfl)) dX5_walk_137 ⟨Nat.le_of_ble_eq_true rfl, Nat.le_of_ble_eq_true rfl⟩) hS (fun q _ h => hFc q h) hFc (fun u t9 H1 locs ht hvm hw_22 hB hz1 hk1 hS => ?_)
                obtain ⟨mm_22, rfl⟩ : ∃ z, z = u := ⟨_, rfl⟩
                obtain ⟨hP, hK1, hD1⟩ := hB
                rw [ht] at hP
                have hD := hD1.weaken (fun _ _ _ h => hFc _ h)
                clear hFc hz1 hk1 hK1 hD1 ht hvm
                generalize H1 = H at hP hS ⊢
                have hP : va_P (dC, dI) vwCl (MWl ga gk (0 : Int32) L N mm_22 f1 mr mh f8 en us eC eL eB eF eR eU eX f2 f3 (f4 + (nI mn_19)) f5 (f6 + (1 : Int32)) f7 f14 ff_19 fa_19 mn_19 lg_19 cm_19 wa_19) H := hP
                have hD : va_D A (MWl ga gk (0 : Int32) L N mm_22 f1 mr mh f8 en us eC eL eB eF eR eU eX f2 f3 (f4 + (nI mn_19)) f5 (f6 + (1 : Int32)) f7 f14 ff_19 fa_19 mn_19 lg_19 cm_19 wa_19) := hD
                refine lv_aload_n hx hb dX5_walk_140 rfl (lv_at hl 3 rfl) ?_
                refine lv_iload_n hx hb dX5_walk_141 rfl (lv_at hl 4 rfl) ?_
                have hFc : ∀ q, va_A (MWl ga gk (0 : Int32) L N mm_22 f1 mr mh f8 en us eC eL eB eF eR eU eX f2 f3 (f4 + (nI mn_19)) f5 (f6 + (1 : Int32)) f7 f14 ff_19 fa_19 mn_19 lg_19 cm_19 wa_19) H.size q → A q := cx_free hD hS hA
                refine va_callv (va_runV (As := [.int p0]) (rest := []) ⟨hx, hb, hml, hown, hta⟩ (c_X5_keep l dC dI ga gk (0 : Int32) L N mm_22 f1 mr mh f8 en us eC eL eB eF eR eU eX f2 f3 (f4 + (nI mn_19)) f5 (f6 + (1 : Int32)) f7 f14 ff_19 fa_19 mn_19 lg_19 cm_19 wa_19 H.size p0 hen h0N hN32 hmn9 hmn49 (hwa9 _ (by omega)) hzx0) (cwV 1 hta (gV aw_707 aw_709 aw_33 aw_43 aw_710) rfl rfl rfl (by decide +kernel) ⟨Nat.le_of_ble_eq_true rfl, Nat.le_of_ble_eq_true rfl⟩) (cx_preVQ hK hP hN (va_recv hK hP (ci := 5) (q0 := 0) rfl rfl) hD) rfl rfl hl.1 rfl (lv_room (Nat.le_of_ble_eq_true rfl)) dX5_walk_142 ⟨Nat.le_of_ble_eq_true rfl, Nat.le_of_ble_eq_true rfl⟩) hS (fun q _ h => hFc q h) hFc (fun u t9 H1 locs ht hvm hw_23 hB hz1 hk1 hS => ?_)
                obtain ⟨en_23, us_23, eC_23, eL_23, eB_23, eF_23, eR_23, eU_23, eX_23, f14_23⟩ := u
                obtain ⟨hP, hK1, hD1⟩ := hB
                rw [ht] at hP
                have hD := hD1.weaken (fun _ _ _ h => hFc _ h)
                clear hFc hz1 hk1 hK1 hD1 ht hvm
                generalize H1 = H at hP hS ⊢
                have hP : va_P (dC, dI) vwCl (MWl ga gk (0 : Int32) L N mm_22 f1 mr mh f8 en_23 us_23 eC_23 eL_23 eB_23 eF_23 eR_23 eU_23 eX_23 f2 f3 (f4 + (nI mn_19)) f5 (f6 + (1 : Int32)) f7 f14_23 ff_19 fa_19 mn_19 lg_19 cm_19 wa_19) H := hP
                have hD : va_D A (MWl ga gk (0 : Int32) L N mm_22 f1 mr mh f8 en_23 us_23 eC_23 eL_23 eB_23 eF_23 eR_23 eU_23 eX_23 f2 f3 (f4 + (nI mn_19)) f5 (f6 + (1 : Int32)) f7 f14_23 ff_19 fa_19 mn_19 lg_19 cm_19 wa_19) := hD
                refine lv_aload_n hx hb dX5_walk_145 rfl (lv_at hl 3 rfl) ?_
                refine lv_iload hx hb dX5_walk_146 (lv_at hl 0 rfl) ?_
                have hFc : ∀ q, va_A (MWl ga gk (0 : Int32) L N mm_22 f1 mr mh f8 en_23 us_23 eC_23 eL_23 eB_23 eF_23 eR_23 eU_23 eX_23 f2 f3 (f4 + (nI mn_19)) f5 (f6 + (1 : Int32)) f7 f14_23 ff_19 fa_19 mn_19 lg_19 cm_19 wa_19) H.size q → A q := cx_free hD hS hA
                refine va_calli (va_runV (As := [.int r_19]) (rest := []) ⟨hx, hb, hml, hown, hta⟩ (c_X5_told l dC dI ga gk (0 : Int32) L N mm_22 f1 mr mh f8 en_23 us_23 eC_23 eL_23 eB_23 eF_23 eR_23 eU_23 eX_23 f2 f3 (f4 + (nI mn_19)) f5 (f6 + (1 : Int32)) f7 f14_23 ff_19 fa_19 mn_19 lg_19 cm_19 wa_19 H.size r_19) (cwV 1 hta (gV aw_681 aw_683 aw_29 aw_43 aw_684) rfl rfl rfl (by decide +kernel) ⟨Nat.le_of_ble_eq_true rfl, Nat.le_of_ble_eq_true rfl⟩) (cx_preVQ hK hP hN (va_recv hK hP (ci := 5) (q0 := 0) rfl rfl) hD) rfl rfl hl.1 rfl (lv_room (Nat.le_of_ble_eq_true rfl)) dX5_walk_148 ⟨Nat.le_of_ble_eq_true rfl, Nat.le_of_ble_eq_true rfl⟩) hS (fun q _ h => hFc q h) hFc (fun r_24 u t9 H1 locs ht hvm hw_24 hB hz1 hk1 hS => ?_)
                obtain ⟨f2_24, f3_24, f7_24⟩ := u
                obtain ⟨hP, hK1, hD1⟩ := hB
                rw [ht] at hP
                have hD := hD1.weaken (fun _ _ _ h => hFc _ h)
                clear hFc hz1 hk1 hK1 hD1 ht hvm
                generalize H1 = H at hP hS ⊢
                have hP : va_P (dC, dI) vwCl (MWl ga gk (0 : Int32) L N mm_22 f1 mr mh f8 en_23 us_23 eC_23 eL_23 eB_23 eF_23 eR_23 eU_23 eX_23 f2_24 f3_24 (f4 + (nI mn_19)) f5 (f6 + (1 : Int32)) f7_24 f14_23 ff_19 fa_19 mn_19 lg_19 cm_19 wa_19) H := hP
                have hD : va_D A (MWl ga gk (0 : Int32) L N mm_22 f1 mr mh f8 en_23 us_23 eC_23 eL_23 eB_23 eF_23 eR_23 eU_23 eX_23 f2_24 f3_24 (f4 + (nI mn_19)) f5 (f6 + (1 : Int32)) f7_24 f14_23 ff_19 fa_19 mn_19 lg_19 cm_19 wa_19) := hD
                exact W.iret (v := r_24) hx hb hr (fun t ht hW => ⟨⟨r_24, ((0 : Int32), mm_22, en_23, us_23, eC_23, eL_23, eB_23, eF_23, eR_23, eU_23, eX_23, f2_24, f3_24, f4 + (nI mn_19), f5, f6 + (1 : Int32), f7_24, f14_23, ff_19, fa_19, mn_19, lg_19, cm_19, wa_19), rfl, (by unfold mX5_walk; rewrite [if_neg c_7_1]; rewrite [← hw_3]; (try dsimp only); rewrite [if_pos c_29_5]; rewrite [hfo_8]; (try dsimp only); rewrite [if_pos c_46_9]; rewrite [← hw_19]; (try dsimp only); rewrite [if_neg c_132_19]; rewrite [← hw_22]; (try dsimp only); rewrite [← hw_23]; (try dsimp only); rewrite [← hw_24]; (try dsimp only); (first | done | rfl)), by rw [ht]; exact hP, va_K.moved hW.alike hK, hD⟩, hS.F ht⟩) hS.2.2 dX5_walk_151
            · exact absurd (by decide) c_57_17
        · dsimp only [optI]
          have hlt_jf_9 : jf_9 < en := by have := mEF_lt _ _ _ _ _ _ _ _ _ _ (fun q hq => by cases hq) hfo_8; omega
          refine lv_istore_n (lv' := [(3, .int (nI jf_9)), (0, .ref (ga 0)), (1, .int p0), (2, .int p1)]) hx hb dX5_walk_41 rfl hl (by decide) rfl (fun ls hl => ?_)
          refine lv_iload_n hx hb dX5_walk_42 rfl (lv_at hl 3 rfl) ?_
          refine lv_iconst (v := 3) hx hb dX5_walk_43 (by decide) ?_
          refine lv_irem hx hb dX5_walk_44 (by decide) ?_
          refine lv_iconst (v := 1) hx hb dX5_walk_45 (by decide) ?_
          refine lv_icmp_ne (tgt := 53) hx hb dX5_walk_46 (by decide) (fun c_46_24 => ?_) (fun c_46_24 => ?_)
          · refine lv_iconst (v := 0) hx hb dX5_walk_53 (by decide) ?_
            refine lv_istore (lv' := [(4, .int (0 : Int32)), (3, .int (nI jf_9)), (0, .ref (ga 0)), (1, .int p0), (2, .int p1)]) hx hb dX5_walk_54 hl (by decide) rfl (fun ls hl => ?_)
            refine lv_iload_n hx hb dX5_walk_56 rfl (lv_at hl 1 rfl) ?_
            refine lv_if_lt (tgt := 99) hx hb dX5_walk_57 (by decide) (fun c_57_25 => ?_) (fun c_57_25 => ?_)
            · exact absurd c_57_25 (nI_pos (by omega))
            · refine lv_iload hx hb dX5_walk_60 (lv_at hl 0 rfl) ?_
              refine lv_if_eq (tgt := 87) hx hb dX5_walk_62 (by decide) (fun c_62_26 => ?_) (fun c_62_26 => ?_)
              · refine lv_aload_n hx hb dX5_walk_87 rfl (lv_at hl 2 rfl) ?_
                refine lv_aload_n hx hb dX5_walk_88 rfl (lv_at hl 2 rfl) ?_
                refine lv_iload_n hx hb dX5_walk_89 rfl (lv_at hl 1 rfl) ?_
                refine lv_iload_n hx hb dX5_walk_90 rfl (lv_at hl 3 rfl) ?_
                refine lv_iload_n hx hb dX5_walk_91 rfl (lv_at hl 4 rfl) ?_
                have hFc : ∀ q, va_A (MWl ga gk (0 : Int32) L N mm f1 mr mh f8 en us eC eL eB eF eR eU eX f2 f3 f4 f5 f6 f7 f14 ff fa mn lg cm wa) H.size q → A q := cx_free hD hS hA
                refine va_calli (va_runV (As := [.int (nI jf_9), .int p0, .int p1]) (rest := [.ref (ga 0)]) ⟨hx, hb, hml, hown, hta⟩ (c_X5_byEntry l dC dI ga gk (0 : Int32) L N mm f1 mr mh f8 en us eC eL eB eF eR eU eX f2 f3 f4 f5 f6 f7 f14 ff fa mn lg cm wa H.size jf_9 p0 p1 (by omega)) (cwV 3 hta (gV aw_658 aw_660 aw_24 aw_43 aw_661) rfl rfl rfl (by decide +kernel) ⟨Nat.le_of_ble_eq_true rfl, Nat.le_of_ble_eq_true rfl⟩) (cx_preVQ hK hP hN (va_recv hK hP (ci := 5) (q0 := 0) rfl rfl) hD) rfl rfl hl.1 rfl (lv_room (Nat.le_of_ble_eq_true rfl)) dX5_walk_92 ⟨Nat.le_of_ble_eq_true rfl, Nat.le_of_ble_eq_true rfl⟩) hS (fun q _ h => hFc q h) hFc (fun r_28 u t9 H1 locs ht hvm hw_28 hB hz1 hk1 hS => ?_)
                obtain ⟨us_28, eU_28, f5_28, ff_28, fa_28, cm_28⟩ := u
                obtain ⟨hP, hK1, hD1⟩ := hB
                rw [ht] at hP
                have hD := hD1.weaken (fun _ _ _ h => hFc _ h)
                clear hFc hz1 hk1 hK1 hD1 ht hvm
                generalize H1 = H at hP hS ⊢
                have hP : va_P (dC, dI) vwCl (MWl ga gk (0 : Int32) L N mm f1 mr mh f8 en us_28 eC eL eB eF eR eU_28 eX f2 f3 f4 f5_28 f6 f7 f14 ff_28 fa_28 mn lg cm_28 wa) H := hP
                have hD : va_D A (MWl ga gk (0 : Int32) L N mm f1 mr mh f8 en us_28 eC eL eB eF eR eU_28 eX f2 f3 f4 f5_28 f6 f7 f14 ff_28 fa_28 mn lg cm_28 wa) := hD
                have hFc : ∀ q, va_A (MWl ga gk (0 : Int32) L N mm f1 mr mh f8 en us_28 eC eL eB eF eR eU_28 eX f2 f3 f4 f5_28 f6 f7 f14 ff_28 fa_28 mn lg cm_28 wa) H.size q → A q := cx_free hD hS hA
                refine va_calli (va_runV (As := [.int r_28]) (rest := []) ⟨hx, hb, hml, hown, hta⟩ (c_X5_told l dC dI ga gk (0 : Int32) L N mm f1 mr mh f8 en us_28 eC eL eB eF eR eU_28 eX f2 f3 f4 f5_28 f6 f7 f14 ff_28 fa_28 mn lg cm_28 wa H.size r_28) (cwV 1 hta (gV aw_681 aw_683 aw_29 aw_43 aw_684) rfl rfl rfl (by decide +kernel) ⟨Nat.le_of_ble_eq_true rfl, Nat.le_of_ble_eq_true rfl⟩) (cx_preVQ hK hP hN (va_recv hK hP (ci := 5) (q0 := 0) rfl rfl) hD) rfl rfl hl.1 rfl (lv_room (Nat.le_of_ble_eq_true rfl)) dX5_walk_95 ⟨Nat.le_of_ble_eq_true rfl, Nat.le_of_ble_eq_true rfl⟩) hS (fun q _ h => hFc q h) hFc (fun r_29 u t9 H1 locs ht hvm hw_29 hB hz1 hk1 hS => ?_)
                obtain ⟨f2_29, f3_29, f7_29⟩ := u
                obtain ⟨hP, hK1, hD1⟩ := hB
                rw [ht] at hP
                have hD := hD1.weaken (fun _ _ _ h => hFc _ h)
                clear hFc hz1 hk1 hK1 hD1 ht hvm
                generalize H1 = H at hP hS ⊢
                have hP : va_P (dC, dI) vwCl (MWl ga gk (0 : Int32) L N mm f1 mr mh f8 en us_28 eC eL eB eF eR eU_28 eX f2_29 f3_29 f4 f5_28 f6 f7_29 f14 ff_28 fa_28 mn lg cm_28 wa) H := hP
                have hD : va_D A (MWl ga gk (0 : Int32) L N mm f1 mr mh f8 en us_28 eC eL eB eF eR eU_28 eX f2_29 f3_29 f4 f5_28 f6 f7_29 f14 ff_28 fa_28 mn lg cm_28 wa) := hD
                exact W.iret (v := r_29) hx hb hr (fun t ht hW => ⟨⟨r_29, ((0 : Int32), mm, en, us_28, eC, eL, eB, eF, eR, eU_28, eX, f2_29, f3_29, f4, f5_28, f6, f7_29, f14, ff_28, fa_28, mn, lg, cm_28, wa), rfl, (by unfold mX5_walk; rewrite [if_neg c_7_1]; rewrite [← hw_3]; (try dsimp only); rewrite [if_pos c_29_5]; rewrite [hfo_8]; (try dsimp only); rewrite [if_neg c_46_24]; rewrite [← hw_28]; (try dsimp only); rewrite [← hw_29]; (try dsimp only); (first | done | rfl)), by rw [ht]; exact hP, va_K.moved hW.alike hK, hD⟩, hS.F ht⟩) hS.2.2 dX5_walk_98
              · exact absurd (by decide) c_62_26
          · refine lv_iconst (v := 1) hx hb dX5_walk_49 (by decide) ?_
            refine lv_goto (tgt := 54) hx hb dX5_walk_50 (by decide) ?_
            refine lv_istore (lv' := [(4, .int (1 : Int32)), (3, .int (nI jf_9)), (0, .ref (ga 0)), (1, .int p0), (2, .int p1)]) hx hb dX5_walk_54 hl (by decide) rfl (fun ls hl => ?_)
            refine lv_iload_n hx hb dX5_walk_56 rfl (lv_at hl 1 rfl) ?_
            refine lv_if_lt (tgt := 99) hx hb dX5_walk_57 (by decide) (fun c_57_29 => ?_) (fun c_57_29 => ?_)
            · exact absurd c_57_29 (nI_pos (by omega))
            · refine lv_iload hx hb dX5_walk_60 (lv_at hl 0 rfl) ?_
              refine lv_if_eq (tgt := 87) hx hb dX5_walk_62 (by decide) (fun c_62_30 => ?_) (fun c_62_30 => ?_)
              · exact absurd c_62_30 (by decide)
              · refine lv_aload_n hx hb dX5_walk_65 rfl (lv_at hl 2 rfl) ?_
                refine va_get (D := (dC, dI)) (ci := 5) (v := .ref (ga 10)) (C := RX5) (T := TX5) (N := 30) hx hb hta inA_X5 hown hK hP 0 rfl rfl 16 (by decide) (hta _ aw_527) (fun _ h9 => h9) rfl dX5_walk_66 ?_
                refine lv_iload_n hx hb dX5_walk_69 rfl (lv_at hl 1 rfl) ?_
                refine va_zald hx hb hK hP 10 9 rfl rfl (vp_in_nI (by omega) (by omega)) dX5_walk_70 ?_
                rw [nI_clamp (show jf_9 < 2 ^ 31 by omega)]
                refine lv_if_ne (tgt := 87) hx hb dX5_walk_71 (by decide) (fun c_71_31 => ?_) (fun c_71_31 => ?_)
                · refine lv_aload_n hx hb dX5_walk_87 rfl (lv_at hl 2 rfl) ?_
                  refine lv_aload_n hx hb dX5_walk_88 rfl (lv_at hl 2 rfl) ?_
                  refine lv_iload_n hx hb dX5_walk_89 rfl (lv_at hl 1 rfl) ?_
                  refine lv_iload_n hx hb dX5_walk_90 rfl (lv_at hl 3 rfl) ?_
                  refine lv_iload_n hx hb dX5_walk_91 rfl (lv_at hl 4 rfl) ?_
                  have hFc : ∀ q, va_A (MWl ga gk (0 : Int32) L N mm f1 mr mh f8 en us eC eL eB eF eR eU eX f2 f3 f4 f5 f6 f7 f14 ff fa mn lg cm wa) H.size q → A q := cx_free hD hS hA
                  refine va_calli (va_runV (As := [.int (nI jf_9), .int p0, .int p1]) (rest := [.ref (ga 0)]) ⟨hx, hb, hml, hown, hta⟩ (c_X5_byEntry l dC dI ga gk (0 : Int32) L N mm f1 mr mh f8 en us eC eL eB eF eR eU eX f2 f3 f4 f5 f6 f7 f14 ff fa mn lg cm wa H.size jf_9 p0 p1 (by omega)) (cwV 3 hta (gV aw_658 aw_660 aw_24 aw_43 aw_661) rfl rfl rfl (by decide +kernel) ⟨Nat.le_of_ble_eq_true rfl, Nat.le_of_ble_eq_true rfl⟩) (cx_preVQ hK hP hN (va_recv hK hP (ci := 5) (q0 := 0) rfl rfl) hD) rfl rfl hl.1 rfl (lv_room (Nat.le_of_ble_eq_true rfl)) dX5_walk_92 ⟨Nat.le_of_ble_eq_true rfl, Nat.le_of_ble_eq_true rfl⟩) hS (fun q _ h => hFc q h) hFc (fun r_33 u t9 H1 locs ht hvm hw_33 hB hz1 hk1 hS => ?_)
                  obtain ⟨us_33, eU_33, f5_33, ff_33, fa_33, cm_33⟩ := u
                  obtain ⟨hP, hK1, hD1⟩ := hB
                  rw [ht] at hP
                  have hD := hD1.weaken (fun _ _ _ h => hFc _ h)
                  clear hFc hz1 hk1 hK1 hD1 ht hvm
                  generalize H1 = H at hP hS ⊢
                  have hP : va_P (dC, dI) vwCl (MWl ga gk (0 : Int32) L N mm f1 mr mh f8 en us_33 eC eL eB eF eR eU_33 eX f2 f3 f4 f5_33 f6 f7 f14 ff_33 fa_33 mn lg cm_33 wa) H := hP
                  have hD : va_D A (MWl ga gk (0 : Int32) L N mm f1 mr mh f8 en us_33 eC eL eB eF eR eU_33 eX f2 f3 f4 f5_33 f6 f7 f14 ff_33 fa_33 mn lg cm_33 wa) := hD
                  have hFc : ∀ q, va_A (MWl ga gk (0 : Int32) L N mm f1 mr mh f8 en us_33 eC eL eB eF eR eU_33 eX f2 f3 f4 f5_33 f6 f7 f14 ff_33 fa_33 mn lg cm_33 wa) H.size q → A q := cx_free hD hS hA
                  refine va_calli (va_runV (As := [.int r_33]) (rest := []) ⟨hx, hb, hml, hown, hta⟩ (c_X5_told l dC dI ga gk (0 : Int32) L N mm f1 mr mh f8 en us_33 eC eL eB eF eR eU_33 eX f2 f3 f4 f5_33 f6 f7 f14 ff_33 fa_33 mn lg cm_33 wa H.size r_33) (cwV 1 hta (gV aw_681 aw_683 aw_29 aw_43 aw_684) rfl rfl rfl (by decide +kernel) ⟨Nat.le_of_ble_eq_true rfl, Nat.le_of_ble_eq_true rfl⟩) (cx_preVQ hK hP hN (va_recv hK hP (ci := 5) (q0 := 0) rfl rfl) hD) rfl rfl hl.1 rfl (lv_room (Nat.le_of_ble_eq_true rfl)) dX5_walk_95 ⟨Nat.le_of_ble_eq_true rfl, Nat.le_of_ble_eq_true rfl⟩) hS (fun q _ h => hFc q h) hFc (fun r_34 u t9 H1 locs ht hvm hw_34 hB hz1 hk1 hS => ?_)
                  obtain ⟨f2_34, f3_34, f7_34⟩ := u
                  obtain ⟨hP, hK1, hD1⟩ := hB
                  rw [ht] at hP
                  have hD := hD1.weaken (fun _ _ _ h => hFc _ h)
                  clear hFc hz1 hk1 hK1 hD1 ht hvm
                  generalize H1 = H at hP hS ⊢
                  have hP : va_P (dC, dI) vwCl (MWl ga gk (0 : Int32) L N mm f1 mr mh f8 en us_33 eC eL eB eF eR eU_33 eX f2_34 f3_34 f4 f5_33 f6 f7_34 f14 ff_33 fa_33 mn lg cm_33 wa) H := hP
                  have hD : va_D A (MWl ga gk (0 : Int32) L N mm f1 mr mh f8 en us_33 eC eL eB eF eR eU_33 eX f2_34 f3_34 f4 f5_33 f6 f7_34 f14 ff_33 fa_33 mn lg cm_33 wa) := hD
                  exact W.iret (v := r_34) hx hb hr (fun t ht hW => ⟨⟨r_34, ((0 : Int32), mm, en, us_33, eC, eL, eB, eF, eR, eU_33, eX, f2_34, f3_34, f4, f5_33, f6, f7_34, f14, ff_33, fa_33, mn, lg, cm_33, wa), rfl, (by unfold mX5_walk; rewrite [if_neg c_7_1]; rewrite [← hw_3]; (try dsimp only); rewrite [if_pos c_29_5]; rewrite [hfo_8]; (try dsimp only); rewrite [if_pos c_46_24]; rewrite [if_neg c_71_31]; rewrite [← hw_33]; (try dsimp only); rewrite [← hw_34]; (try dsimp only); (first | done | rfl)), by rw [ht]; exact hP, va_K.moved hW.alike hK, hD⟩, hS.F ht⟩) hS.2.2 dX5_walk_98
                · refine lv_aload_n hx hb dX5_walk_74 rfl (lv_at hl 2 rfl) ?_
                  refine va_get (D := (dC, dI)) (ci := 5) (v := .ref (ga 8)) (C := RX5) (T := TX5) (N := 30) hx hb hta inA_X5 hown hK hP 0 rfl rfl 14 (by decide) (hta _ aw_525) (fun _ h9 => h9) rfl dX5_walk_75 ?_
                  refine lv_iload_n hx hb dX5_walk_78 rfl (lv_at hl 1 rfl) ?_
                  refine va_iald hx hb hK hP 8 7 rfl rfl (vp_in_nI (by omega) (by omega)) dX5_walk_79 ?_
                  rw [nI_clamp (show jf_9 < 2 ^ 31 by omega)]
                  refine lv_iload_n hx hb dX5_walk_80 rfl (lv_at hl 4 rfl) ?_
                  refine cx_callSi (va_runS (As := [.int (eR jf_9), .int p1]) (rest := []) ⟨hx, hb, hml, hown, hta⟩ (c_X5_does l (eR jf_9) p1) (va_cwS 2 hta (gS aw_655 aw_656 aw_43 aw_657) rfl rfl rfl (by decide +kernel) ⟨Nat.le_of_ble_eq_true rfl, Nat.le_of_ble_eq_true rfl⟩) cx_pre0 rfl rfl hl.1 rfl (lv_room (Nat.le_of_ble_eq_true rfl)) dX5_walk_81 ⟨Nat.le_of_ble_eq_true rfl, Nat.le_of_ble_eq_true rfl⟩) (fun r hw_35 => ?_)
                  subst hw_35
                  refine lv_if_ne (tgt := 99) hx hb dX5_walk_84 (by decide) (fun c_84_35 => ?_) (fun c_84_35 => ?_)
                  · refine lv_aload_n hx hb dX5_walk_99 rfl (lv_at hl 2 rfl) ?_
                    refine lv_dup hx hb dX5_walk_100 rfl ?_
                    refine va_get (D := (dC, dI)) (ci := 5) (v := .int f6) (C := RX5) (T := TX5) (N := 30) hx hb hta inA_X5 hown hK hP 0 rfl rfl 21 (by decide) (hta _ aw_532) (fun _ h9 => h9) rfl dX5_walk_101 ?_
                    refine lv_iconst (v := 1) hx hb dX5_walk_104 (by decide) ?_
                    refine lv_iadd hx hb dX5_walk_105 ?_
                    refine va_put (D := (dC, dI)) (ci := 5) (v := .int (f6 + (1 : Int32))) (ty := .int) (C := RX5) (T := TX5) (N := 30) hx hb hta inA_X5 tyX5 tyX5_ok nmX5 hown hK hP hD hS 0 rfl rfl 21 (by decide) (hta _ aw_532) (fun _ h9 => h9) rfl (by decide +kernel) rfl rfl (Nat.le_of_ble_eq_true rfl) dX5_walk_106 (fun H locs hP hD hS => ?_)
                    have hP : va_P (dC, dI) vwCl (MWl ga gk (0 : Int32) L N mm f1 mr mh f8 en us eC eL eB eF eR eU eX f2 f3 f4 f5 (f6 + (1 : Int32)) f7 f14 ff fa mn lg cm wa) H := hP
                    have hD : va_D A (MWl ga gk (0 : Int32) L N mm f1 mr mh f8 en us eC eL eB eF eR eU eX f2 f3 f4 f5 (f6 + (1 : Int32)) f7 f14 ff fa mn lg cm wa) := hD
                    refine lv_aload_n hx hb dX5_walk_109 rfl (lv_at hl 2 rfl) ?_
                    refine lv_iload_n hx hb dX5_walk_110 rfl (lv_at hl 3 rfl) ?_
                    refine lv_iload_n hx hb dX5_walk_111 rfl (lv_at hl 4 rfl) ?_
                    have hFc : ∀ q, va_A (MWl ga gk (0 : Int32) L N mm f1 mr mh f8 en us eC eL eB eF eR eU eX f2 f3 f4 f5 (f6 + (1 : Int32)) f7 f14 ff fa mn lg cm wa) H.size q → A q := cx_free hD hS hA
                    refine va_calli (va_runV (As := [.int p0, .int p1]) (rest := []) ⟨hx, hb, hml, hown, hta⟩ (c_X5_walks l dC dI ga gk (0 : Int32) L N mm f1 mr mh f8 en us eC eL eB eF eR eU eX f2 f3 f4 f5 (f6 + (1 : Int32)) f7 f14 ff fa mn lg cm wa H.size p0 p1 hL1 hL4 hf1) (cwV 2 hta (gV aw_685 aw_687 aw_30 aw_43 aw_688) rfl rfl rfl (by decide +kernel) ⟨Nat.le_of_ble_eq_true rfl, Nat.le_of_ble_eq_true rfl⟩) (cx_preVQ hK hP hN (va_recv hK hP (ci := 5) (q0 := 0) rfl rfl) hD) rfl rfl hl.1 rfl (lv_room (Nat.le_of_ble_eq_true rfl)) dX5_walk_112 ⟨Nat.le_of_ble_eq_true rfl, Nat.le_of_ble_eq_true rfl⟩) hS (fun q _ h => hFc q h) hFc (fun r_37 u t9 H1 locs ht hvm hw_37 hB hz1 hk1 hS => ?_)
                    obtain ⟨ff_37, fa_37, mn_37, lg_37, cm_37, wa_37⟩ := u
                    obtain ⟨hP, hK1, hD1⟩ := hB
                    rw [ht] at hP
                    have hD := hD1.weaken (fun _ _ _ h => hFc _ h)
                    clear hFc hz1 hk1 hK1 hD1 ht hvm
                    generalize H1 = H at hP hS ⊢
                    have hP : va_P (dC, dI) vwCl (MWl ga gk (0 : Int32) L N mm f1 mr mh f8 en us eC eL eB eF eR eU eX f2 f3 f4 f5 (f6 + (1 : Int32)) f7 f14 ff_37 fa_37 mn_37 lg_37 cm_37 wa_37) H := hP
                    have hD : va_D A (MWl ga gk (0 : Int32) L N mm f1 mr mh f8 en us eC eL eB eF eR eU eX f2 f3 f4 f5 (f6 + (1 : Int32)) f7 f14 ff_37 fa_37 mn_37 lg_37 cm_37 wa_37) := hD
                    obtain ⟨hmn49, hwa9, hgd9⟩ := wk_ok hw_37 hL4
                    refine lv_istore (lv' := [(5, .int r_37), (4, .int (1 : Int32)), (3, .int (nI jf_9)), (0, .ref (ga 0)), (1, .int p0), (2, .int p1)]) hx hb dX5_walk_115 hl (by decide) rfl (fun ls hl => ?_)
                    refine lv_aload_n hx hb dX5_walk_117 rfl (lv_at hl 3 rfl) ?_
                    refine lv_dup hx hb dX5_walk_118 rfl ?_
                    refine va_get (D := (dC, dI)) (ci := 5) (v := .int f4) (C := RX5) (T := TX5) (N := 30) hx hb hta inA_X5 hown hK hP 0 rfl rfl 19 (by decide) (hta _ aw_530) (fun _ h9 => h9) rfl dX5_walk_119 ?_
                    refine lv_aload_n hx hb dX5_walk_122 rfl (lv_at hl 3 rfl) ?_
                    refine va_get (D := (dC, dI)) (ci := 5) (v := .int (nI mn_37)) (C := RX5) (T := TX5) (N := 30) hx hb hta inA_X5 hown hK hP 0 rfl rfl 26 (by decide) (hta _ aw_537) (fun _ h9 => h9) rfl dX5_walk_123 ?_
                    refine lv_iadd hx hb dX5_walk_126 ?_
                    refine va_put (D := (dC, dI)) (ci := 5) (v := .int (f4 + (nI mn_37))) (ty := .int) (C := RX5) (T := TX5) (N := 30) hx hb hta inA_X5 tyX5 tyX5_ok nmX5 hown hK hP hD hS 0 rfl rfl 19 (by decide) (hta _ aw_530) (fun _ h9 => h9) rfl (by decide +kernel) rfl rfl (Nat.le_of_ble_eq_true rfl) dX5_walk_127 (fun H locs hP hD hS => ?_)
                    have hP : va_P (dC, dI) vwCl (MWl ga gk (0 : Int32) L N mm f1 mr mh f8 en us eC eL eB eF eR eU eX f2 f3 (f4 + (nI mn_37)) f5 (f6 + (1 : Int32)) f7 f14 ff_37 fa_37 mn_37 lg_37 cm_37 wa_37) H := hP
                    have hD : va_D A (MWl ga gk (0 : Int32) L N mm f1 mr mh f8 en us eC eL eB eF eR eU eX f2 f3 (f4 + (nI mn_37)) f5 (f6 + (1 : Int32)) f7 f14 ff_37 fa_37 mn_37 lg_37 cm_37 wa_37) := hD
                    refine lv_iload hx hb dX5_walk_130 (lv_at hl 0 rfl) ?_
                    refine lv_if_eq (tgt := 145) hx hb dX5_walk_132 (by decide) (fun c_132_37 => ?_) (fun c_132_37 => ?_)
                    · refine lv_aload_n hx hb dX5_walk_145 rfl (lv_at hl 3 rfl) ?_
                      refine lv_iload hx hb dX5_walk_146 (lv_at hl 0 rfl) ?_
                      have hFc : ∀ q, va_A (MWl ga gk (0 : Int32) L N mm f1 mr mh f8 en us eC eL eB eF eR eU eX f2 f3 (f4 + (nI mn_37)) f5 (f6 + (1 : Int32)) f7 f14 ff_37 fa_37 mn_37 lg_37 cm_37 wa_37) H.size q → A q := cx_free hD hS hA
                      refine va_calli (va_runV (As := [.int r_37]) (rest := []) ⟨hx, hb, hml, hown, hta⟩ (c_X5_told l dC dI ga gk (0 : Int32) L N mm f1 mr mh f8 en us eC eL eB eF eR eU eX f2 f3 (f4 + (nI mn_37)) f5 (f6 + (1 : Int32)) f7 f14 ff_37 fa_37 mn_37 lg_37 cm_37 wa_37 H.size r_37) (cwV 1 hta (gV aw_681 aw_683 aw_29 aw_43 aw_684) rfl rfl rfl (by decide +kernel) ⟨Nat.le_of_ble_eq_true rfl, Nat.le_of_ble_eq_true rfl⟩) (cx_preVQ hK hP hN (va_recv hK hP (ci := 5) (q0 := 0) rfl rfl) hD) rfl rfl hl.1 rfl (lv_room (Nat.le_of_ble_eq_true rfl)) dX5_walk_148 ⟨Nat.le_of_ble_eq_true rfl, Nat.le_of_ble_eq_true rfl⟩) hS (fun q _ h => hFc q h) hFc (fun r_39 u t9 H1 locs ht hvm hw_39 hB hz1 hk1 hS => ?_)
                      obtain ⟨f2_39, f3_39, f7_39⟩ := u
                      obtain ⟨hP, hK1, hD1⟩ := hB
                      rw [ht] at hP
                      have hD := hD1.weaken (fun _ _ _ h => hFc _ h)
                      clear hFc hz1 hk1 hK1 hD1 ht hvm
                      generalize H1 = H at hP hS ⊢
                      have hP : va_P (dC, dI) vwCl (MWl ga gk (0 : Int32) L N mm f1 mr mh f8 en us eC eL eB eF eR eU eX f2_39 f3_39 (f4 + (nI mn_37)) f5 (f6 + (1 : Int32)) f7_39 f14 ff_37 fa_37 mn_37 lg_37 cm_37 wa_37) H := hP
                      have hD : va_D A (MWl ga gk (0 : Int32) L N mm f1 mr mh f8 en us eC eL eB eF eR eU eX f2_39 f3_39 (f4 + (nI mn_37)) f5 (f6 + (1 : Int32)) f7_39 f14 ff_37 fa_37 mn_37 lg_37 cm_37 wa_37) := hD
                      exact W.iret (v := r_39) hx hb hr (fun t ht hW => ⟨⟨r_39, ((0 : Int32), mm, en, us, eC, eL, eB, eF, eR, eU, eX, f2_39, f3_39, f4 + (nI mn_37), f5, f6 + (1 : Int32), f7_39, f14, ff_37, fa_37, mn_37, lg_37, cm_37, wa_37), rfl, (by unfold mX5_walk; rewrite [if_neg c_7_1]; rewrite [← hw_3]; (try dsimp only); rewrite [if_pos c_29_5]; rewrite [hfo_8]; (try dsimp only); rewrite [if_pos c_46_24]; rewrite [if_pos c_71_31]; rewrite [if_neg c_84_35]; rewrite [← hw_37]; (try dsimp only); rewrite [if_pos c_132_37]; rewrite [← hw_39]; (try dsimp only); (first | done | rfl)), by rw [ht]; exact hP, va_K.moved hW.alike hK, hD⟩, hS.F ht⟩) hS.2.2 dX5_walk_151
                    · have hmn9 := (hgd9 c_132_37).1
                      refine lv_aload_n hx hb dX5_walk_135 rfl (lv_at hl 3 rfl) ?_
                      refine lv_iload_n hx hb dX5_walk_136 rfl (lv_at hl 5 rfl) ?_
                      have hFc : ∀ q, va_A (MWl ga gk (0 : Int32) L N mm f1 mr mh f8 en us eC eL eB eF eR eU eX f2 f3 (f4 + (nI mn_37)) f5 (f6 + (1 : Int32)) f7 f14 ff_37 fa_37 mn_37 lg_37 cm_37 wa_37) H.size q → A q := cx_free hD hS hA
                      refine va_callv (va_runV (As := [.int p1]) (rest := []) ⟨hx, hb, hml, hown, hta⟩ (c_X5_mark l dC dI ga gk (0 : Int32) L N mm f1 mr mh f8 en us eC eL eB eF eR eU eX f2 f3 (f4 + (nI mn_37)) f5 (f6 + (1 : Int32)) f7 f14 ff_37 fa_37 mn_37 lg_37 cm_37 wa_37 H.size p1 hmn9 hmn49 hwa9) (cwV 1 hta (gV aw_701 aw_703 aw_32 aw_43 aw_704) rfl rfl rfl (by decide +kernel) ⟨Nat.le_of_ble_eq_true rfl, Nat.le_of_ble_eq_true rfl⟩) (cx_preVQ hK hP hN (va_recv hK hP (ci := 5) (q0 := 0) rfl rfl) hD) rfl rfl hl.1 rfl (lv_room (Nat.le_of_ble_eq_true rfl)) dX5_walk_137 ⟨Nat.le_of_ble_eq_true rfl, Nat.le_of_ble_eq_true rfl⟩) hS (fun q _ h => hFc q h) hFc (fun u t9 H1 locs ht hvm hw_40 hB hz1 hk1 hS => ?_)
                      obtain ⟨mm_40, rfl⟩ : ∃ z, z = u := ⟨_, rfl⟩
                      obtain ⟨hP, hK1, hD1⟩ := hB
                      rw [ht] at hP
                      have hD := hD1.weaken (fun _ _ _ h => hFc _ h)
                      clear hFc hz1 hk1 hK1 hD1 ht hvm
                      generalize H1 = H at hP hS ⊢
                      have hP : va_P (dC, dI) vwCl (MWl ga gk (0 : Int32) L N mm_40 f1 mr mh f8 en us eC eL eB eF eR eU eX f2 f3 (f4 + (nI mn_37)) f5 (f6 + (1 : Int32)) f7 f14 ff_37 fa_37 mn_37 lg_37 cm_37 wa_37) H := hP
                      have hD : va_D A (MWl ga gk (0 : Int32) L N mm_40 f1 mr mh f8 en us eC eL eB eF eR eU eX f2 f3 (f4 + (nI mn_37)) f5 (f6 + (1 : Int32)) f7 f14 ff_37 fa_37 mn_37 lg_37 cm_37 wa_37) := hD
                      refine lv_aload_n hx hb dX5_walk_140 rfl (lv_at hl 3 rfl) ?_
                      refine lv_iload_n hx hb dX5_walk_141 rfl (lv_at hl 4 rfl) ?_
                      have hFc : ∀ q, va_A (MWl ga gk (0 : Int32) L N mm_40 f1 mr mh f8 en us eC eL eB eF eR eU eX f2 f3 (f4 + (nI mn_37)) f5 (f6 + (1 : Int32)) f7 f14 ff_37 fa_37 mn_37 lg_37 cm_37 wa_37) H.size q → A q := cx_free hD hS hA
                      refine va_callv (va_runV (As := [.int p0]) (rest := []) ⟨hx, hb, hml, hown, hta⟩ (c_X5_keep l dC dI ga gk (0 : Int32) L N mm_40 f1 mr mh f8 en us eC eL eB eF eR eU eX f2 f3 (f4 + (nI mn_37)) f5 (f6 + (1 : Int32)) f7 f14 ff_37 fa_37 mn_37 lg_37 cm_37 wa_37 H.size p0 hen h0N hN32 hmn9 hmn49 (hwa9 _ (by omega)) hzx0) (cwV 1 hta (gV aw_707 aw_709 aw_33 aw_43 aw_710) rfl rfl rfl (by decide +kernel) ⟨Nat.le_of_ble_eq_true rfl, Nat.le_of_ble_eq_true rfl⟩) (cx_preVQ hK hP hN (va_recv hK hP (ci := 5) (q0 := 0) rfl rfl) hD) rfl rfl hl.1 rfl (lv_room (Nat.le_of_ble_eq_true rfl)) dX5_walk_142 ⟨Nat.le_of_ble_eq_true rfl, Nat.le_of_ble_eq_true rfl⟩) hS (fun q _ h => hFc q h) hFc (fun u t9 H1 locs ht hvm hw_41 hB hz1 hk1 hS => ?_)
                      obtain ⟨en_41, us_41, eC_41, eL_41, eB_41, eF_41, eR_41, eU_41, eX_41, f14_41⟩ := u
                      obtain ⟨hP, hK1, hD1⟩ := hB
                      rw [ht] at hP
                      have hD := hD1.weaken (fun _ _ _ h => hFc _ h)
                      clear hFc hz1 hk1 hK1 hD1 ht hvm
                      generalize H1 = H at hP hS ⊢
                      have hP : va_P (dC, dI) vwCl (MWl ga gk (0 : Int32) L N mm_40 f1 mr mh f8 en_41 us_41 eC_41 eL_41 eB_41 eF_41 eR_41 eU_41 eX_41 f2 f3 (f4 + (nI mn_37)) f5 (f6 + (1 : Int32)) f7 f14_41 ff_37 fa_37 mn_37 lg_37 cm_37 wa_37) H := hP
                      have hD : va_D A (MWl ga gk (0 : Int32) L N mm_40 f1 mr mh f8 en_41 us_41 eC_41 eL_41 eB_41 eF_41 eR_41 eU_41 eX_41 f2 f3 (f4 + (nI mn_37)) f5 (f6 + (1 : Int32)) f7 f14_41 ff_37 fa_37 mn_37 lg_37 cm_37 wa_37) := hD
                      refine lv_aload_n hx hb dX5_walk_145 rfl (lv_at hl 3 rfl) ?_
                      refine lv_iload hx hb dX5_walk_146 (lv_at hl 0 rfl) ?_
                      have hFc : ∀ q, va_A (MWl ga gk (0 : Int32) L N mm_40 f1 mr mh f8 en_41 us_41 eC_41 eL_41 eB_41 eF_41 eR_41 eU_41 eX_41 f2 f3 (f4 + (nI mn_37)) f5 (f6 + (1 : Int32)) f7 f14_41 ff_37 fa_37 mn_37 lg_37 cm_37 wa_37) H.size q → A q := cx_free hD hS hA
                      refine va_calli (va_runV (As := [.int r_37]) (rest := []) ⟨hx, hb, hml, hown, hta⟩ (c_X5_told l dC dI ga gk (0 : Int32) L N mm_40 f1 mr mh f8 en_41 us_41 eC_41 eL_41 eB_41 eF_41 eR_41 eU_41 eX_41 f2 f3 (f4 + (nI mn_37)) f5 (f6 + (1 : Int32)) f7 f14_41 ff_37 fa_37 mn_37 lg_37 cm_37 wa_37 H.size r_37) (cwV 1 hta (gV aw_681 aw_683 aw_29 aw_43 aw_684) rfl rfl rfl (by decide +kernel) ⟨Nat.le_of_ble_eq_true rfl, Nat.le_of_ble_eq_true rfl⟩) (cx_preVQ hK hP hN (va_recv hK hP (ci := 5) (q0 := 0) rfl rfl) hD) rfl rfl hl.1 rfl (lv_room (Nat.le_of_ble_eq_true rfl)) dX5_walk_148 ⟨Nat.le_of_ble_eq_true rfl, Nat.le_of_ble_eq_true rfl⟩) hS (fun q _ h => hFc q h) hFc (fun r_42 u t9 H1 locs ht hvm hw_42 hB hz1 hk1 hS => ?_)
                      obtain ⟨f2_42, f3_42, f7_42⟩ := u
                      obtain ⟨hP, hK1, hD1⟩ := hB
                      rw [ht] at hP
                      have hD := hD1.weaken (fun _ _ _ h => hFc _ h)
                      clear hFc hz1 hk1 hK1 hD1 ht hvm
                      generalize H1 = H at hP hS ⊢
                      have hP : va_P (dC, dI) vwCl (MWl ga gk (0 : Int32) L N mm_40 f1 mr mh f8 en_41 us_41 eC_41 eL_41 eB_41 eF_41 eR_41 eU_41 eX_41 f2_42 f3_42 (f4 + (nI mn_37)) f5 (f6 + (1 : Int32)) f7_42 f14_41 ff_37 fa_37 mn_37 lg_37 cm_37 wa_37) H := hP
                      have hD : va_D A (MWl ga gk (0 : Int32) L N mm_40 f1 mr mh f8 en_41 us_41 eC_41 eL_41 eB_41 eF_41 eR_41 eU_41 eX_41 f2_42 f3_42 (f4 + (nI mn_37)) f5 (f6 + (1 : Int32)) f7_42 f14_41 ff_37 fa_37 mn_37 lg_37 cm_37 wa_37) := hD
                      exact W.iret (v := r_42) hx hb hr (fun t ht hW => ⟨⟨r_42, ((0 : Int32), mm_40, en_41, us_41, eC_41, eL_41, eB_41, eF_41, eR_41, eU_41, eX_41, f2_42, f3_42, f4 + (nI mn_37), f5, f6 + (1 : Int32), f7_42, f14_41, ff_37, fa_37, mn_37, lg_37, cm_37, wa_37), rfl, (by unfold mX5_walk; rewrite [if_neg c_7_1]; rewrite [← hw_3]; (try dsimp only); rewrite [if_pos c_29_5]; rewrite [hfo_8]; (try dsimp only); rewrite [if_pos c_46_24]; rewrite [if_pos c_71_31]; rewrite [if_neg c_84_35]; rewrite [← hw_37]; (try dsimp only); rewrite [if_neg c_132_37]; rewrite [← hw_40]; (try dsimp only); rewrite [← hw_41]; (try dsimp only); rewrite [← hw_42]; (try dsimp only); (first | done | rfl)), by rw [ht]; exact hP, va_K.moved hW.alike hK, hD⟩, hS.F ht⟩) hS.2.2 dX5_walk_151
                  · refine lv_aload_n hx hb dX5_walk_87 rfl (lv_at hl 2 rfl) ?_
                    refine lv_aload_n hx hb dX5_walk_88 rfl (lv_at hl 2 rfl) ?_
                    refine lv_iload_n hx hb dX5_walk_89 rfl (lv_at hl 1 rfl) ?_
                    refine lv_iload_n hx hb dX5_walk_90 rfl (lv_at hl 3 rfl) ?_
                    refine lv_iload_n hx hb dX5_walk_91 rfl (lv_at hl 4 rfl) ?_
                    have hFc : ∀ q, va_A (MWl ga gk (0 : Int32) L N mm f1 mr mh f8 en us eC eL eB eF eR eU eX f2 f3 f4 f5 f6 f7 f14 ff fa mn lg cm wa) H.size q → A q := cx_free hD hS hA
                    refine va_calli (va_runV (As := [.int (nI jf_9), .int p0, .int p1]) (rest := [.ref (ga 0)]) ⟨hx, hb, hml, hown, hta⟩ (c_X5_byEntry l dC dI ga gk (0 : Int32) L N mm f1 mr mh f8 en us eC eL eB eF eR eU eX f2 f3 f4 f5 f6 f7 f14 ff fa mn lg cm wa H.size jf_9 p0 p1 (by omega)) (cwV 3 hta (gV aw_658 aw_660 aw_24 aw_43 aw_661) rfl rfl rfl (by decide +kernel) ⟨Nat.le_of_ble_eq_true rfl, Nat.le_of_ble_eq_true rfl⟩) (cx_preVQ hK hP hN (va_recv hK hP (ci := 5) (q0 := 0) rfl rfl) hD) rfl rfl hl.1 rfl (lv_room (Nat.le_of_ble_eq_true rfl)) dX5_walk_92 ⟨Nat.le_of_ble_eq_true rfl, Nat.le_of_ble_eq_true rfl⟩) hS (fun q _ h => hFc q h) hFc (fun r_43 u t9 H1 locs ht hvm hw_43 hB hz1 hk1 hS => ?_)
                    obtain ⟨us_43, eU_43, f5_43, ff_43, fa_43, cm_43⟩ := u
                    obtain ⟨hP, hK1, hD1⟩ := hB
                    rw [ht] at hP
                    have hD := hD1.weaken (fun _ _ _ h => hFc _ h)
                    clear hFc hz1 hk1 hK1 hD1 ht hvm
                    generalize H1 = H at hP hS ⊢
                    have hP : va_P (dC, dI) vwCl (MWl ga gk (0 : Int32) L N mm f1 mr mh f8 en us_43 eC eL eB eF eR eU_43 eX f2 f3 f4 f5_43 f6 f7 f14 ff_43 fa_43 mn lg cm_43 wa) H := hP
                    have hD : va_D A (MWl ga gk (0 : Int32) L N mm f1 mr mh f8 en us_43 eC eL eB eF eR eU_43 eX f2 f3 f4 f5_43 f6 f7 f14 ff_43 fa_43 mn lg cm_43 wa) := hD
                    have hFc : ∀ q, va_A (MWl ga gk (0 : Int32) L N mm f1 mr mh f8 en us_43 eC eL eB eF eR eU_43 eX f2 f3 f4 f5_43 f6 f7 f14 ff_43 fa_43 mn lg cm_43 wa) H.size q → A q := cx_free hD hS hA
                    refine va_calli (va_runV (As := [.int r_43]) (rest := []) ⟨hx, hb, hml, hown, hta⟩ (c_X5_told l dC dI ga gk (0 : Int32) L N mm f1 mr mh f8 en us_43 eC eL eB eF eR eU_43 eX f2 f3 f4 f5_43 f6 f7 f14 ff_43 fa_43 mn lg cm_43 wa H.size r_43) (cwV 1 hta (gV aw_681 aw_683 aw_29 aw_43 aw_684) rfl rfl rfl (by decide +kernel) ⟨Nat.le_of_ble_eq_true rfl, Nat.le_of_ble_eq_true rfl⟩) (cx_preVQ hK hP hN (va_recv hK hP (ci := 5) (q0 := 0) rfl rfl) hD) rfl rfl hl.1 rfl (lv_room (Nat.le_of_ble_eq_true rfl)) dX5_walk_95 ⟨Nat.le_of_ble_eq_true rfl, Nat.le_of_ble_eq_true rfl⟩) hS (fun q _ h => hFc q h) hFc (fun r_44 u t9 H1 locs ht hvm hw_44 hB hz1 hk1 hS => ?_)
                    obtain ⟨f2_44, f3_44, f7_44⟩ := u
                    obtain ⟨hP, hK1, hD1⟩ := hB
                    rw [ht] at hP
                    have hD := hD1.weaken (fun _ _ _ h => hFc _ h)
                    clear hFc hz1 hk1 hK1 hD1 ht hvm
                    generalize H1 = H at hP hS ⊢
                    have hP : va_P (dC, dI) vwCl (MWl ga gk (0 : Int32) L N mm f1 mr mh f8 en us_43 eC eL eB eF eR eU_43 eX f2_44 f3_44 f4 f5_43 f6 f7_44 f14 ff_43 fa_43 mn lg cm_43 wa) H := hP
                    have hD : va_D A (MWl ga gk (0 : Int32) L N mm f1 mr mh f8 en us_43 eC eL eB eF eR eU_43 eX f2_44 f3_44 f4 f5_43 f6 f7_44 f14 ff_43 fa_43 mn lg cm_43 wa) := hD
                    exact W.iret (v := r_44) hx hb hr (fun t ht hW => ⟨⟨r_44, ((0 : Int32), mm, en, us_43, eC, eL, eB, eF, eR, eU_43, eX, f2_44, f3_44, f4, f5_43, f6, f7_44, f14, ff_43, fa_43, mn, lg, cm_43, wa), rfl, (by unfold mX5_walk; rewrite [if_neg c_7_1]; rewrite [← hw_3]; (try dsimp only); rewrite [if_pos c_29_5]; rewrite [hfo_8]; (try dsimp only); rewrite [if_pos c_46_24]; rewrite [if_pos c_71_31]; rewrite [if_pos c_84_35]; rewrite [← hw_43]; (try dsimp only); rewrite [← hw_44]; (try dsimp only); (first | done | rfl)), by rw [ht]; exact hP, va_K.moved hW.alike hK, hD⟩, hS.F ht⟩) hS.2.2 dX5_walk_98
      · refine lv_iconst (v := (-1)) hx hb dX5_walk_32 (by decide) ?_
        refine lv_goto (tgt := 41) hx hb dX5_walk_33 (by decide) ?_
        refine lv_istore_n (lv' := [(3, .int (-1 : Int32)), (0, .ref (ga 0)), (1, .int p0), (2, .int p1)]) hx hb dX5_walk_41 rfl hl (by decide) rfl (fun ls hl => ?_)
        refine lv_iload_n hx hb dX5_walk_42 rfl (lv_at hl 3 rfl) ?_
        refine lv_iconst (v := 3) hx hb dX5_walk_43 (by decide) ?_
        refine lv_irem hx hb dX5_walk_44 (by decide) ?_
        refine lv_iconst (v := 1) hx hb dX5_walk_45 (by decide) ?_
        refine lv_icmp_ne (tgt := 53) hx hb dX5_walk_46 (by decide) (fun c_46_44 => ?_) (fun c_46_44 => ?_)
        · refine lv_iconst (v := 0) hx hb dX5_walk_53 (by decide) ?_
          refine lv_istore (lv' := [(4, .int (0 : Int32)), (3, .int (-1 : Int32)), (0, .ref (ga 0)), (1, .int p0), (2, .int p1)]) hx hb dX5_walk_54 hl (by decide) rfl (fun ls hl => ?_)
          refine lv_iload_n hx hb dX5_walk_56 rfl (lv_at hl 1 rfl) ?_
          refine lv_if_lt (tgt := 99) hx hb dX5_walk_57 (by decide) (fun c_57_45 => ?_) (fun c_57_45 => ?_)
          · refine lv_aload_n hx hb dX5_walk_99 rfl (lv_at hl 2 rfl) ?_
            refine lv_dup hx hb dX5_walk_100 rfl ?_
            refine va_get (D := (dC, dI)) (ci := 5) (v := .int f6) (C := RX5) (T := TX5) (N := 30) hx hb hta inA_X5 hown hK hP 0 rfl rfl 21 (by decide) (hta _ aw_532) (fun _ h9 => h9) rfl dX5_walk_101 ?_
            refine lv_iconst (v := 1) hx hb dX5_walk_104 (by decide) ?_
            refine lv_iadd hx hb dX5_walk_105 ?_
            refine va_put (D := (dC, dI)) (ci := 5) (v := .int (f6 + (1 : Int32))) (ty := .int) (C := RX5) (T := TX5) (N := 30) hx hb hta inA_X5 tyX5 tyX5_ok nmX5 hown hK hP hD hS 0 rfl rfl 21 (by decide) (hta _ aw_532) (fun _ h9 => h9) rfl (by decide +kernel) rfl rfl (Nat.le_of_ble_eq_true rfl) dX5_walk_106 (fun H locs hP hD hS => ?_)
            have hP : va_P (dC, dI) vwCl (MWl ga gk (0 : Int32) L N mm f1 mr mh f8 en us eC eL eB eF eR eU eX f2 f3 f4 f5 (f6 + (1 : Int32)) f7 f14 ff fa mn lg cm wa) H := hP
            have hD : va_D A (MWl ga gk (0 : Int32) L N mm f1 mr mh f8 en us eC eL eB eF eR eU eX f2 f3 f4 f5 (f6 + (1 : Int32)) f7 f14 ff fa mn lg cm wa) := hD
            refine lv_aload_n hx hb dX5_walk_109 rfl (lv_at hl 2 rfl) ?_
            refine lv_iload_n hx hb dX5_walk_110 rfl (lv_at hl 3 rfl) ?_
            refine lv_iload_n hx hb dX5_walk_111 rfl (lv_at hl 4 rfl) ?_
            have hFc : ∀ q, va_A (MWl ga gk (0 : Int32) L N mm f1 mr mh f8 en us eC eL eB eF eR eU eX f2 f3 f4 f5 (f6 + (1 : Int32)) f7 f14 ff fa mn lg cm wa) H.size q → A q := cx_free hD hS hA
            refine va_calli (va_runV (As := [.int p0, .int p1]) (rest := []) ⟨hx, hb, hml, hown, hta⟩ (c_X5_walks l dC dI ga gk (0 : Int32) L N mm f1 mr mh f8 en us eC eL eB eF eR eU eX f2 f3 f4 f5 (f6 + (1 : Int32)) f7 f14 ff fa mn lg cm wa H.size p0 p1 hL1 hL4 hf1) (cwV 2 hta (gV aw_685 aw_687 aw_30 aw_43 aw_688) rfl rfl rfl (by decide +kernel) ⟨Nat.le_of_ble_eq_true rfl, Nat.le_of_ble_eq_true rfl⟩) (cx_preVQ hK hP hN (va_recv hK hP (ci := 5) (q0 := 0) rfl rfl) hD) rfl rfl hl.1 rfl (lv_room (Nat.le_of_ble_eq_true rfl)) dX5_walk_112 ⟨Nat.le_of_ble_eq_true rfl, Nat.le_of_ble_eq_true rfl⟩) hS (fun q _ h => hFc q h) hFc (fun r_47 u t9 H1 locs ht hvm hw_47 hB hz1 hk1 hS => ?_)
            obtain ⟨ff_47, fa_47, mn_47, lg_47, cm_47, wa_47⟩ := u
            obtain ⟨hP, hK1, hD1⟩ := hB
            rw [ht] at hP
            have hD := hD1.weaken (fun _ _ _ h => hFc _ h)
            clear hFc hz1 hk1 hK1 hD1 ht hvm
            generalize H1 = H at hP hS ⊢
            have hP : va_P (dC, dI) vwCl (MWl ga gk (0 : Int32) L N mm f1 mr mh f8 en us eC eL eB eF eR eU eX f2 f3 f4 f5 (f6 + (1 : Int32)) f7 f14 ff_47 fa_47 mn_47 lg_47 cm_47 wa_47) H := hP
            have hD : va_D A (MWl ga gk (0 : Int32) L N mm f1 mr mh f8 en us eC eL eB eF eR eU eX f2 f3 f4 f5 (f6 + (1 : Int32)) f7 f14 ff_47 fa_47 mn_47 lg_47 cm_47 wa_47) := hD
            obtain ⟨hmn49, hwa9, hgd9⟩ := wk_ok hw_47 hL4
            refine lv_istore (lv' := [(5, .int r_47), (4, .int (0 : Int32)), (3, .int (-1 : Int32)), (0, .ref (ga 0)), (1, .int p0), (2, .int p1)]) hx hb dX5_walk_115 hl (by decide) rfl (fun ls hl => ?_)
            refine lv_aload_n hx hb dX5_walk_117 rfl (lv_at hl 3 rfl) ?_
            refine lv_dup hx hb dX5_walk_118 rfl ?_
            refine va_get (D := (dC, dI)) (ci := 5) (v := .int f4) (C := RX5) (T := TX5) (N := 30) hx hb hta inA_X5 hown hK hP 0 rfl rfl 19 (by decide) (hta _ aw_530) (fun _ h9 => h9) rfl dX5_walk_119 ?_
            refine lv_aload_n hx hb dX5_walk_122 rfl (lv_at hl 3 rfl) ?_
            refine va_get (D := (dC, dI)) (ci := 5) (v := .int (nI mn_47)) (C := RX5) (T := TX5) (N := 30) hx hb hta inA_X5 hown hK hP 0 rfl rfl 26 (by decide) (hta _ aw_537) (fun _ h9 => h9) rfl dX5_walk_123 ?_
            refine lv_iadd hx hb dX5_walk_126 ?_
            refine va_put (D := (dC, dI)) (ci := 5) (v := .int (f4 + (nI mn_47))) (ty := .int) (C := RX5) (T := TX5) (N := 30) hx hb hta inA_X5 tyX5 tyX5_ok nmX5 hown hK hP hD hS 0 rfl rfl 19 (by decide) (hta _ aw_530) (fun _ h9 => h9) rfl (by decide +kernel) rfl rfl (Nat.le_of_ble_eq_true rfl) dX5_walk_127 (fun H locs hP hD hS => ?_)
            have hP : va_P (dC, dI) vwCl (MWl ga gk (0 : Int32) L N mm f1 mr mh f8 en us eC eL eB eF eR eU eX f2 f3 (f4 + (nI mn_47)) f5 (f6 + (1 : Int32)) f7 f14 ff_47 fa_47 mn_47 lg_47 cm_47 wa_47) H := hP
            have hD : va_D A (MWl ga gk (0 : Int32) L N mm f1 mr mh f8 en us eC eL eB eF eR eU eX f2 f3 (f4 + (nI mn_47)) f5 (f6 + (1 : Int32)) f7 f14 ff_47 fa_47 mn_47 lg_47 cm_47 wa_47) := hD
            refine lv_iload hx hb dX5_walk_130 (lv_at hl 0 rfl) ?_
            refine lv_if_eq (tgt := 145) hx hb dX5_walk_132 (by decide) (fun c_132_47 => ?_) (fun c_132_47 => ?_)
            · refine lv_aload_n hx hb dX5_walk_145 rfl (lv_at hl 3 rfl) ?_
              refine lv_iload hx hb dX5_walk_146 (lv_at hl 0 rfl) ?_
              have hFc : ∀ q, va_A (MWl ga gk (0 : Int32) L N mm f1 mr mh f8 en us eC eL eB eF eR eU eX f2 f3 (f4 + (nI mn_47)) f5 (f6 + (1 : Int32)) f7 f14 ff_47 fa_47 mn_47 lg_47 cm_47 wa_47) H.size q → A q := cx_free hD hS hA
              refine va_calli (va_runV (As := [.int r_47]) (rest := []) ⟨hx, hb, hml, hown, hta⟩ (c_X5_told l dC dI ga gk (0 : Int32) L N mm f1 mr mh f8 en us eC eL eB eF eR eU eX f2 f3 (f4 + (nI mn_47)) f5 (f6 + (1 : Int32)) f7 f14 ff_47 fa_47 mn_47 lg_47 cm_47 wa_47 H.size r_47) (cwV 1 hta (gV aw_681 aw_683 aw_29 aw_43 aw_684) rfl rfl rfl (by decide +kernel) ⟨Nat.le_of_ble_eq_true rfl, Nat.le_of_ble_eq_true rfl⟩) (cx_preVQ hK hP hN (va_recv hK hP (ci := 5) (q0 := 0) rfl rfl) hD) rfl rfl hl.1 rfl (lv_room (Nat.le_of_ble_eq_true rfl)) dX5_walk_148 ⟨Nat.le_of_ble_eq_true rfl, Nat.le_of_ble_eq_true rfl⟩) hS (fun q _ h => hFc q h) hFc (fun r_49 u t9 H1 locs ht hvm hw_49 hB hz1 hk1 hS => ?_)
              obtain ⟨f2_49, f3_49, f7_49⟩ := u
              obtain ⟨hP, hK1, hD1⟩ := hB
              rw [ht] at hP
              have hD := hD1.weaken (fun _ _ _ h => hFc _ h)
              clear hFc hz1 hk1 hK1 hD1 ht hvm
              generalize H1 = H at hP hS ⊢
              have hP : va_P (dC, dI) vwCl (MWl ga gk (0 : Int32) L N mm f1 mr mh f8 en us eC eL eB eF eR eU eX f2_49 f3_49 (f4 + (nI mn_47)) f5 (f6 + (1 : Int32)) f7_49 f14 ff_47 fa_47 mn_47 lg_47 cm_47 wa_47) H := hP
              have hD : va_D A (MWl ga gk (0 : Int32) L N mm f1 mr mh f8 en us eC eL eB eF eR eU eX f2_49 f3_49 (f4 + (nI mn_47)) f5 (f6 + (1 : Int32)) f7_49 f14 ff_47 fa_47 mn_47 lg_47 cm_47 wa_47) := hD
              exact W.iret (v := r_49) hx hb hr (fun t ht hW => ⟨⟨r_49, ((0 : Int32), mm, en, us, eC, eL, eB, eF, eR, eU, eX, f2_49, f3_49, f4 + (nI mn_47), f5, f6 + (1 : Int32), f7_49, f14, ff_47, fa_47, mn_47, lg_47, cm_47, wa_47), rfl, (by unfold mX5_walk; rewrite [if_neg c_7_1]; rewrite [← hw_3]; (try dsimp only); rewrite [if_neg c_29_5]; rewrite [if_neg c_46_44]; rewrite [← hw_47]; (try dsimp only); rewrite [if_pos c_132_47]; rewrite [← hw_49]; (try dsimp only); (first | done | rfl)), by rw [ht]; exact hP, va_K.moved hW.alike hK, hD⟩, hS.F ht⟩) hS.2.2 dX5_walk_151
            · have hmn9 := (hgd9 c_132_47).1
              refine lv_aload_n hx hb dX5_walk_135 rfl (lv_at hl 3 rfl) ?_
              refine lv_iload_n hx hb dX5_walk_136 rfl (lv_at hl 5 rfl) ?_
              have hFc : ∀ q, va_A (MWl ga gk (0 : Int32) L N mm f1 mr mh f8 en us eC eL eB eF eR eU eX f2 f3 (f4 + (nI mn_47)) f5 (f6 + (1 : Int32)) f7 f14 ff_47 fa_47 mn_47 lg_47 cm_47 wa_47) H.size q → A q := cx_free hD hS hA
              refine va_callv (va_runV (As := [.int p1]) (rest := []) ⟨hx, hb, hml, hown, hta⟩ (c_X5_mark l dC dI ga gk (0 : Int32) L N mm f1 mr mh f8 en us eC eL eB eF eR eU eX f2 f3 (f4 + (nI mn_47)) f5 (f6 + (1 : Int32)) f7 f14 ff_47 fa_47 mn_47 lg_47 cm_47 wa_47 H.size p1 hmn9 hmn49 hwa9) (cwV 1 hta (gV aw_701 aw_703 aw_32 aw_43 aw_704) rfl rfl rfl (by decide +kernel) ⟨Nat.le_of_ble_eq_true rfl, Nat.le_of_ble_eq_true rfl⟩) (cx_preVQ hK hP hN (va_recv hK hP (ci := 5) (q0 := 0) rfl rfl) hD) rfl rfl hl.1 rfl (lv_room (Nat.le_of_ble_eq_true rfl)) dX5_walk_137 ⟨Nat.le_of_ble_eq_true rfl, Nat.le_of_ble_eq_true rfl⟩) hS (fun q _ h => hFc q h) hFc (fun u t9 H1 locs ht hvm hw_50 hB hz1 hk1 hS => ?_)
              obtain ⟨mm_50, rfl⟩ : ∃ z, z = u := ⟨_, rfl⟩
              obtain ⟨hP, hK1, hD1⟩ := hB
              rw [ht] at hP
              have hD := hD1.weaken (fun _ _ _ h => hFc _ h)
              clear hFc hz1 hk1 hK1 hD1 ht hvm
              generalize H1 = H at hP hS ⊢
              have hP : va_P (dC, dI) vwCl (MWl ga gk (0 : Int32) L N mm_50 f1 mr mh f8 en us eC eL eB eF eR eU eX f2 f3 (f4 + (nI mn_47)) f5 (f6 + (1 : Int32)) f7 f14 ff_47 fa_47 mn_47 lg_47 cm_47 wa_47) H := hP
              have hD : va_D A (MWl ga gk (0 : Int32) L N mm_50 f1 mr mh f8 en us eC eL eB eF eR eU eX f2 f3 (f4 + (nI mn_47)) f5 (f6 + (1 : Int32)) f7 f14 ff_47 fa_47 mn_47 lg_47 cm_47 wa_47) := hD
              refine lv_aload_n hx hb dX5_walk_140 rfl (lv_at hl 3 rfl) ?_
              refine lv_iload_n hx hb dX5_walk_141 rfl (lv_at hl 4 rfl) ?_
              have hFc : ∀ q, va_A (MWl ga gk (0 : Int32) L N mm_50 f1 mr mh f8 en us eC eL eB eF eR eU eX f2 f3 (f4 + (nI mn_47)) f5 (f6 + (1 : Int32)) f7 f14 ff_47 fa_47 mn_47 lg_47 cm_47 wa_47) H.size q → A q := cx_free hD hS hA
              refine va_callv (va_runV (As := [.int p0]) (rest := []) ⟨hx, hb, hml, hown, hta⟩ (c_X5_keep l dC dI ga gk (0 : Int32) L N mm_50 f1 mr mh f8 en us eC eL eB eF eR eU eX f2 f3 (f4 + (nI mn_47)) f5 (f6 + (1 : Int32)) f7 f14 ff_47 fa_47 mn_47 lg_47 cm_47 wa_47 H.size p0 hen h0N hN32 hmn9 hmn49 (hwa9 _ (by omega)) hzx0) (cwV 1 hta (gV aw_707 aw_709 aw_33 aw_43 aw_710) rfl rfl rfl (by decide +kernel) ⟨Nat.le_of_ble_eq_true rfl, Nat.le_of_ble_eq_true rfl⟩) (cx_preVQ hK hP hN (va_recv hK hP (ci := 5) (q0 := 0) rfl rfl) hD) rfl rfl hl.1 rfl (lv_room (Nat.le_of_ble_eq_true rfl)) dX5_walk_142 ⟨Nat.le_of_ble_eq_true rfl, Nat.le_of_ble_eq_true rfl⟩) hS (fun q _ h => hFc q h) hFc (fun u t9 H1 locs ht hvm hw_51 hB hz1 hk1 hS => ?_)
              obtain ⟨en_51, us_51, eC_51, eL_51, eB_51, eF_51, eR_51, eU_51, eX_51, f14_51⟩ := u
              obtain ⟨hP, hK1, hD1⟩ := hB
              rw [ht] at hP
              have hD := hD1.weaken (fun _ _ _ h => hFc _ h)
              clear hFc hz1 hk1 hK1 hD1 ht hvm
              generalize H1 = H at hP hS ⊢
              have hP : va_P (dC, dI) vwCl (MWl ga gk (0 : Int32) L N mm_50 f1 mr mh f8 en_51 us_51 eC_51 eL_51 eB_51 eF_51 eR_51 eU_51 eX_51 f2 f3 (f4 + (nI mn_47)) f5 (f6 + (1 : Int32)) f7 f14_51 ff_47 fa_47 mn_47 lg_47 cm_47 wa_47) H := hP
              have hD : va_D A (MWl ga gk (0 : Int32) L N mm_50 f1 mr mh f8 en_51 us_51 eC_51 eL_51 eB_51 eF_51 eR_51 eU_51 eX_51 f2 f3 (f4 + (nI mn_47)) f5 (f6 + (1 : Int32)) f7 f14_51 ff_47 fa_47 mn_47 lg_47 cm_47 wa_47) := hD
              refine lv_aload_n hx hb dX5_walk_145 rfl (lv_at hl 3 rfl) ?_
              refine lv_iload hx hb dX5_walk_146 (lv_at hl 0 rfl) ?_
              have hFc : ∀ q, va_A (MWl ga gk (0 : Int32) L N mm_50 f1 mr mh f8 en_51 us_51 eC_51 eL_51 eB_51 eF_51 eR_51 eU_51 eX_51 f2 f3 (f4 + (nI mn_47)) f5 (f6 + (1 : Int32)) f7 f14_51 ff_47 fa_47 mn_47 lg_47 cm_47 wa_47) H.size q → A q := cx_free hD hS hA
              refine va_calli (va_runV (As := [.int r_47]) (rest := []) ⟨hx, hb, hml, hown, hta⟩ (c_X5_told l dC dI ga gk (0 : Int32) L N mm_50 f1 mr mh f8 en_51 us_51 eC_51 eL_51 eB_51 eF_51 eR_51 eU_51 eX_51 f2 f3 (f4 + (nI mn_47)) f5 (f6 + (1 : Int32)) f7 f14_51 ff_47 fa_47 mn_47 lg_47 cm_47 wa_47 H.size r_47) (cwV 1 hta (gV aw_681 aw_683 aw_29 aw_43 aw_684) rfl rfl rfl (by decide +kernel) ⟨Nat.le_of_ble_eq_true rfl, Nat.le_of_ble_eq_true rfl⟩) (cx_preVQ hK hP hN (va_recv hK hP (ci := 5) (q0 := 0) rfl rfl) hD) rfl rfl hl.1 rfl (lv_room (Nat.le_of_ble_eq_true rfl)) dX5_walk_148 ⟨Nat.le_of_ble_eq_true rfl, Nat.le_of_ble_eq_true rfl⟩) hS (fun q _ h => hFc q h) hFc (fun r_52 u t9 H1 locs ht hvm hw_52 hB hz1 hk1 hS => ?_)
              obtain ⟨f2_52, f3_52, f7_52⟩ := u
              obtain ⟨hP, hK1, hD1⟩ := hB
              rw [ht] at hP
              have hD := hD1.weaken (fun _ _ _ h => hFc _ h)
              clear hFc hz1 hk1 hK1 hD1 ht hvm
              generalize H1 = H at hP hS ⊢
              have hP : va_P (dC, dI) vwCl (MWl ga gk (0 : Int32) L N mm_50 f1 mr mh f8 en_51 us_51 eC_51 eL_51 eB_51 eF_51 eR_51 eU_51 eX_51 f2_52 f3_52 (f4 + (nI mn_47)) f5 (f6 + (1 : Int32)) f7_52 f14_51 ff_47 fa_47 mn_47 lg_47 cm_47 wa_47) H := hP
              have hD : va_D A (MWl ga gk (0 : Int32) L N mm_50 f1 mr mh f8 en_51 us_51 eC_51 eL_51 eB_51 eF_51 eR_51 eU_51 eX_51 f2_52 f3_52 (f4 + (nI mn_47)) f5 (f6 + (1 : Int32)) f7_52 f14_51 ff_47 fa_47 mn_47 lg_47 cm_47 wa_47) := hD
              exact W.iret (v := r_52) hx hb hr (fun t ht hW => ⟨⟨r_52, ((0 : Int32), mm_50, en_51, us_51, eC_51, eL_51, eB_51, eF_51, eR_51, eU_51, eX_51, f2_52, f3_52, f4 + (nI mn_47), f5, f6 + (1 : Int32), f7_52, f14_51, ff_47, fa_47, mn_47, lg_47, cm_47, wa_47), rfl, (by unfold mX5_walk; rewrite [if_neg c_7_1]; rewrite [← hw_3]; (try dsimp only); rewrite [if_neg c_29_5]; rewrite [if_neg c_46_44]; rewrite [← hw_47]; (try dsimp only); rewrite [if_neg c_132_47]; rewrite [← hw_50]; (try dsimp only); rewrite [← hw_51]; (try dsimp only); rewrite [← hw_52]; (try dsimp only); (first | done | rfl)), by rw [ht]; exact hP, va_K.moved hW.alike hK, hD⟩, hS.F ht⟩) hS.2.2 dX5_walk_151
          · exact absurd (by decide) c_57_45
        · refine lv_iconst (v := 1) hx hb dX5_walk_49 (by decide) ?_
          refine lv_goto (tgt := 54) hx hb dX5_walk_50 (by decide) ?_
          refine lv_istore (lv' := [(4, .int (1 : Int32)), (3, .int (-1 : Int32)), (0, .ref (ga 0)), (1, .int p0), (2, .int p1)]) hx hb dX5_walk_54 hl (by decide) rfl (fun ls hl => ?_)
          refine lv_iload_n hx hb dX5_walk_56 rfl (lv_at hl 1 rfl) ?_
          refine lv_if_lt (tgt := 99) hx hb dX5_walk_57 (by decide) (fun c_57_52 => ?_) (fun c_57_52 => ?_)
          · refine lv_aload_n hx hb dX5_walk_99 rfl (lv_at hl 2 rfl) ?_
            refine lv_dup hx hb dX5_walk_100 rfl ?_
            refine va_get (D := (dC, dI)) (ci := 5) (v := .int f6) (C := RX5) (T := TX5) (N := 30) hx hb hta inA_X5 hown hK hP 0 rfl rfl 21 (by decide) (hta _ aw_532) (fun _ h9 => h9) rfl dX5_walk_101 ?_
            refine lv_iconst (v := 1) hx hb dX5_walk_104 (by decide) ?_
            refine lv_iadd hx hb dX5_walk_105 ?_
            refine va_put (D := (dC, dI)) (ci := 5) (v := .int (f6 + (1 : Int32))) (ty := .int) (C := RX5) (T := TX5) (N := 30) hx hb hta inA_X5 tyX5 tyX5_ok nmX5 hown hK hP hD hS 0 rfl rfl 21 (by decide) (hta _ aw_532) (fun _ h9 => h9) rfl (by decide +kernel) rfl rfl (Nat.le_of_ble_eq_true rfl) dX5_walk_106 (fun H locs hP hD hS => ?_)
            have hP : va_P (dC, dI) vwCl (MWl ga gk (0 : Int32) L N mm f1 mr mh f8 en us eC eL eB eF eR eU eX f2 f3 f4 f5 (f6 + (1 : Int32)) f7 f14 ff fa mn lg cm wa) H := hP
            have hD : va_D A (MWl ga gk (0 : Int32) L N mm f1 mr mh f8 en us eC eL eB eF eR eU eX f2 f3 f4 f5 (f6 + (1 : Int32)) f7 f14 ff fa mn lg cm wa) := hD
            refine lv_aload_n hx hb dX5_walk_109 rfl (lv_at hl 2 rfl) ?_
            refine lv_iload_n hx hb dX5_walk_110 rfl (lv_at hl 3 rfl) ?_
            refine lv_iload_n hx hb dX5_walk_111 rfl (lv_at hl 4 rfl) ?_
            have hFc : ∀ q, va_A (MWl ga gk (0 : Int32) L N mm f1 mr mh f8 en us eC eL eB eF eR eU eX f2 f3 f4 f5 (f6 + (1 : Int32)) f7 f14 ff fa mn lg cm wa) H.size q → A q := cx_free hD hS hA
            refine va_calli (va_runV (As := [.int p0, .int p1]) (rest := []) ⟨hx, hb, hml, hown, hta⟩ (c_X5_walks l dC dI ga gk (0 : Int32) L N mm f1 mr mh f8 en us eC eL eB eF eR eU eX f2 f3 f4 f5 (f6 + (1 : Int32)) f7 f14 ff fa mn lg cm wa H.size p0 p1 hL1 hL4 hf1) (cwV 2 hta (gV aw_685 aw_687 aw_30 aw_43 aw_688) rfl rfl rfl (by decide +kernel) ⟨Nat.le_of_ble_eq_true rfl, Nat.le_of_ble_eq_true rfl⟩) (cx_preVQ hK hP hN (va_recv hK hP (ci := 5) (q0 := 0) rfl rfl) hD) rfl rfl hl.1 rfl (lv_room (Nat.le_of_ble_eq_true rfl)) dX5_walk_112 ⟨Nat.le_of_ble_eq_true rfl, Nat.le_of_ble_eq_true rfl⟩) hS (fun q _ h => hFc q h) hFc (fun r_54 u t9 H1 locs ht hvm hw_54 hB hz1 hk1 hS => ?_)
            obtain ⟨ff_54, fa_54, mn_54, lg_54, cm_54, wa_54⟩ := u
            obtain ⟨hP, hK1, hD1⟩ := hB
            rw [ht] at hP
            have hD := hD1.weaken (fun _ _ _ h => hFc _ h)
            clear hFc hz1 hk1 hK1 hD1 ht hvm
            generalize H1 = H at hP hS ⊢
            have hP : va_P (dC, dI) vwCl (MWl ga gk (0 : Int32) L N mm f1 mr mh f8 en us eC eL eB eF eR eU eX f2 f3 f4 f5 (f6 + (1 : Int32)) f7 f14 ff_54 fa_54 mn_54 lg_54 cm_54 wa_54) H := hP
            have hD : va_D A (MWl ga gk (0 : Int32) L N mm f1 mr mh f8 en us eC eL eB eF eR eU eX f2 f3 f4 f5 (f6 + (1 : Int32)) f7 f14 ff_54 fa_54 mn_54 lg_54 cm_54 wa_54) := hD
            obtain ⟨hmn49, hwa9, hgd9⟩ := wk_ok hw_54 hL4
            refine lv_istore (lv' := [(5, .int r_54), (4, .int (1 : Int32)), (3, .int (-1 : Int32)), (0, .ref (ga 0)), (1, .int p0), (2, .int p1)]) hx hb dX5_walk_115 hl (by decide) rfl (fun ls hl => ?_)
            refine lv_aload_n hx hb dX5_walk_117 rfl (lv_at hl 3 rfl) ?_
            refine lv_dup hx hb dX5_walk_118 rfl ?_
            refine va_get (D := (dC, dI)) (ci := 5) (v := .int f4) (C := RX5) (T := TX5) (N := 30) hx hb hta inA_X5 hown hK hP 0 rfl rfl 19 (by decide) (hta _ aw_530) (fun _ h9 => h9) rfl dX5_walk_119 ?_
            refine lv_aload_n hx hb dX5_walk_122 rfl (lv_at hl 3 rfl) ?_
            refine va_get (D := (dC, dI)) (ci := 5) (v := .int (nI mn_54)) (C := RX5) (T := TX5) (N := 30) hx hb hta inA_X5 hown hK hP 0 rfl rfl 26 (by decide) (hta _ aw_537) (fun _ h9 => h9) rfl dX5_walk_123 ?_
            refine lv_iadd hx hb dX5_walk_126 ?_
            refine va_put (D := (dC, dI)) (ci := 5) (v := .int (f4 + (nI mn_54))) (ty := .int) (C := RX5) (T := TX5) (N := 30) hx hb hta inA_X5 tyX5 tyX5_ok nmX5 hown hK hP hD hS 0 rfl rfl 19 (by decide) (hta _ aw_530) (fun _ h9 => h9) rfl (by decide +kernel) rfl rfl (Nat.le_of_ble_eq_true rfl) dX5_walk_127 (fun H locs hP hD hS => ?_)
            have hP : va_P (dC, dI) vwCl (MWl ga gk (0 : Int32) L N mm f1 mr mh f8 en us eC eL eB eF eR eU eX f2 f3 (f4 + (nI mn_54)) f5 (f6 + (1 : Int32)) f7 f14 ff_54 fa_54 mn_54 lg_54 cm_54 wa_54) H := hP
            have hD : va_D A (MWl ga gk (0 : Int32) L N mm f1 mr mh f8 en us eC eL eB eF eR eU eX f2 f3 (f4 + (nI mn_54)) f5 (f6 + (1 : Int32)) f7 f14 ff_54 fa_54 mn_54 lg_54 cm_54 wa_54) := hD
            refine lv_iload hx hb dX5_walk_130 (lv_at hl 0 rfl) ?_
            refine lv_if_eq (tgt := 145) hx hb dX5_walk_132 (by decide) (fun c_132_54 => ?_) (fun c_132_54 => ?_)
            · refine lv_aload_n hx hb dX5_walk_145 rfl (lv_at hl 3 rfl) ?_
              refine lv_iload hx hb dX5_walk_146 (lv_at hl 0 rfl) ?_
              have hFc : ∀ q, va_A (MWl ga gk (0 : Int32) L N mm f1 mr mh f8 en us eC eL eB eF eR eU eX f2 f3 (f4 + (nI mn_54)) f5 (f6 + (1 : Int32)) f7 f14 ff_54 fa_54 mn_54 lg_54 cm_54 wa_54) H.size q → A q := cx_free hD hS hA
              refine va_calli (va_runV (As := [.int r_54]) (rest := []) ⟨hx, hb, hml, hown, hta⟩ (c_X5_told l dC dI ga gk (0 : Int32) L N mm f1 mr mh f8 en us eC eL eB eF eR eU eX f2 f3 (f4 + (nI mn_54)) f5 (f6 + (1 : Int32)) f7 f14 ff_54 fa_54 mn_54 lg_54 cm_54 wa_54 H.size r_54) (cwV 1 hta (gV aw_681 aw_683 aw_29 aw_43 aw_684) rfl rfl rfl (by decide +kernel) ⟨Nat.le_of_ble_eq_true rfl, Nat.le_of_ble_eq_true rfl⟩) (cx_preVQ hK hP hN (va_recv hK hP (ci := 5) (q0 := 0) rfl rfl) hD) rfl rfl hl.1 rfl (lv_room (Nat.le_of_ble_eq_true rfl)) dX5_walk_148 ⟨Nat.le_of_ble_eq_true rfl, Nat.le_of_ble_eq_true rfl⟩) hS (fun q _ h => hFc q h) hFc (fun r_56 u t9 H1 locs ht hvm hw_56 hB hz1 hk1 hS => ?_)
              obtain ⟨f2_56, f3_56, f7_56⟩ := u
              obtain ⟨hP, hK1, hD1⟩ := hB
              rw [ht] at hP
              have hD := hD1.weaken (fun _ _ _ h => hFc _ h)
              clear hFc hz1 hk1 hK1 hD1 ht hvm
              generalize H1 = H at hP hS ⊢
              have hP : va_P (dC, dI) vwCl (MWl ga gk (0 : Int32) L N mm f1 mr mh f8 en us eC eL eB eF eR eU eX f2_56 f3_56 (f4 + (nI mn_54)) f5 (f6 + (1 : Int32)) f7_56 f14 ff_54 fa_54 mn_54 lg_54 cm_54 wa_54) H := hP
              have hD : va_D A (MWl ga gk (0 : Int32) L N mm f1 mr mh f8 en us eC eL eB eF eR eU eX f2_56 f3_56 (f4 + (nI mn_54)) f5 (f6 + (1 : Int32)) f7_56 f14 ff_54 fa_54 mn_54 lg_54 cm_54 wa_54) := hD
              exact W.iret (v := r_56) hx hb hr (fun t ht hW => ⟨⟨r_56, ((0 : Int32), mm, en, us, eC, eL, eB, eF, eR, eU, eX, f2_56, f3_56, f4 + (nI mn_54), f5, f6 + (1 : Int32), f7_56, f14, ff_54, fa_54, mn_54, lg_54, cm_54, wa_54), rfl, (by unfold mX5_walk; rewrite [if_neg c_7_1]; rewrite [← hw_3]; (try dsimp only); rewrite [if_neg c_29_5]; rewrite [if_pos c_46_44]; rewrite [← hw_54]; (try dsimp only); rewrite [if_pos c_132_54]; rewrite [← hw_56]; (try dsimp only); (first | done | rfl)), by rw [ht]; exact hP, va_K.moved hW.alike hK, hD⟩, hS.F ht⟩) hS.2.2 dX5_walk_151
            · have hmn9 := (hgd9 c_132_54).1
              refine lv_aload_n hx hb dX5_walk_135 rfl (lv_at hl 3 rfl) ?_
              refine lv_iload_n hx hb dX5_walk_136 rfl (lv_at hl 5 rfl) ?_
              have hFc : ∀ q, va_A (MWl ga gk (0 : Int32) L N mm f1 mr mh f8 en us eC eL eB eF eR eU eX f2 f3 (f4 + (nI mn_54)) f5 (f6 + (1 : Int32)) f7 f14 ff_54 fa_54 mn_54 lg_54 cm_54 wa_54) H.size q → A q := cx_free hD hS hA
              refine va_callv (va_runV (As := [.int p1]) (rest := []) ⟨hx, hb, hml, hown, hta⟩ (c_X5_mark l dC dI ga gk (0 : Int32) L N mm f1 mr mh f8 en us eC eL eB eF eR eU eX f2 f3 (f4 + (nI mn_54)) f5 (f6 + (1 : Int32)) f7 f14 ff_54 fa_54 mn_54 lg_54 cm_54 wa_54 H.size p1 hmn9 hmn49 hwa9) (cwV 1 hta (gV aw_701 aw_703 aw_32 aw_43 aw_704) rfl rfl rfl (by decide +kernel) ⟨Nat.le_of_ble_eq_true rfl, Nat.le_of_ble_eq_true rfl⟩) (cx_preVQ hK hP hN (va_recv hK hP (ci := 5) (q0 := 0) rfl rfl) hD) rfl rfl hl.1 rfl (lv_room (Nat.le_of_ble_eq_true rfl)) dX5_walk_137 ⟨Nat.le_of_ble_eq_true rfl, Nat.le_of_ble_eq_true rfl⟩) hS (fun q _ h => hFc q h) hFc (fun u t9 H1 locs ht hvm hw_57 hB hz1 hk1 hS => ?_)
              obtain ⟨mm_57, rfl⟩ : ∃ z, z = u := ⟨_, rfl⟩
              obtain ⟨hP, hK1, hD1⟩ := hB
              rw [ht] at hP
              have hD := hD1.weaken (fun _ _ _ h => hFc _ h)
              clear hFc hz1 hk1 hK1 hD1 ht hvm
              generalize H1 = H at hP hS ⊢
              have hP : va_P (dC, dI) vwCl (MWl ga gk (0 : Int32) L N mm_57 f1 mr mh f8 en us eC eL eB eF eR eU eX f2 f3 (f4 + (nI mn_54)) f5 (f6 + (1 : Int32)) f7 f14 ff_54 fa_54 mn_54 lg_54 cm_54 wa_54) H := hP
              have hD : va_D A (MWl ga gk (0 : Int32) L N mm_57 f1 mr mh f8 en us eC eL eB eF eR eU eX f2 f3 (f4 + (nI mn_54)) f5 (f6 + (1 : Int32)) f7 f14 ff_54 fa_54 mn_54 lg_54 cm_54 wa_54) := hD
              refine lv_aload_n hx hb dX5_walk_140 rfl (lv_at hl 3 rfl) ?_
              refine lv_iload_n hx hb dX5_walk_141 rfl (lv_at hl 4 rfl) ?_
              have hFc : ∀ q, va_A (MWl ga gk (0 : Int32) L N mm_57 f1 mr mh f8 en us eC eL eB eF eR eU eX f2 f3 (f4 + (nI mn_54)) f5 (f6 + (1 : Int32)) f7 f14 ff_54 fa_54 mn_54 lg_54 cm_54 wa_54) H.size q → A q := cx_free hD hS hA
              refine va_callv (va_runV (As := [.int p0]) (rest := []) ⟨hx, hb, hml, hown, hta⟩ (c_X5_keep l dC dI ga gk (0 : Int32) L N mm_57 f1 mr mh f8 en us eC eL eB eF eR eU eX f2 f3 (f4 + (nI mn_54)) f5 (f6 + (1 : Int32)) f7 f14 ff_54 fa_54 mn_54 lg_54 cm_54 wa_54 H.size p0 hen h0N hN32 hmn9 hmn49 (hwa9 _ (by omega)) hzx0) (cwV 1 hta (gV aw_707 aw_709 aw_33 aw_43 aw_710) rfl rfl rfl (by decide +kernel) ⟨Nat.le_of_ble_eq_true rfl, Nat.le_of_ble_eq_true rfl⟩) (cx_preVQ hK hP hN (va_recv hK hP (ci := 5) (q0 := 0) rfl rfl) hD) rfl rfl hl.1 rfl (lv_room (Nat.le_of_ble_eq_true rfl)) dX5_walk_142 ⟨Nat.le_of_ble_eq_true rfl, Nat.le_of_ble_eq_true rfl⟩) hS (fun q _ h => hFc q h) hFc (fun u t9 H1 locs ht hvm hw_58 hB hz1 hk1 hS => ?_)
              obtain ⟨en_58, us_58, eC_58, eL_58, eB_58, eF_58, eR_58, eU_58, eX_58, f14_58⟩ := u
              obtain ⟨hP, hK1, hD1⟩ := hB
              rw [ht] at hP
              have hD := hD1.weaken (fun _ _ _ h => hFc _ h)
              clear hFc hz1 hk1 hK1 hD1 ht hvm
              generalize H1 = H at hP hS ⊢
              have hP : va_P (dC, dI) vwCl (MWl ga gk (0 : Int32) L N mm_57 f1 mr mh f8 en_58 us_58 eC_58 eL_58 eB_58 eF_58 eR_58 eU_58 eX_58 f2 f3 (f4 + (nI mn_54)) f5 (f6 + (1 : Int32)) f7 f14_58 ff_54 fa_54 mn_54 lg_54 cm_54 wa_54) H := hP
              have hD : va_D A (MWl ga gk (0 : Int32) L N mm_57 f1 mr mh f8 en_58 us_58 eC_58 eL_58 eB_58 eF_58 eR_58 eU_58 eX_58 f2 f3 (f4 + (nI mn_54)) f5 (f6 + (1 : Int32)) f7 f14_58 ff_54 fa_54 mn_54 lg_54 cm_54 wa_54) := hD
              refine lv_aload_n hx hb dX5_walk_145 rfl (lv_at hl 3 rfl) ?_
              refine lv_iload hx hb dX5_walk_146 (lv_at hl 0 rfl) ?_
              have hFc : ∀ q, va_A (MWl ga gk (0 : Int32) L N mm_57 f1 mr mh f8 en_58 us_58 eC_58 eL_58 eB_58 eF_58 eR_58 eU_58 eX_58 f2 f3 (f4 + (nI mn_54)) f5 (f6 + (1 : Int32)) f7 f14_58 ff_54 fa_54 mn_54 lg_54 cm_54 wa_54) H.size q → A q := cx_free hD hS hA
              refine va_calli (va_runV (As := [.int r_54]) (rest := []) ⟨hx, hb, hml, hown, hta⟩ (c_X5_told l dC dI ga gk (0 : Int32) L N mm_57 f1 mr mh f8 en_58 us_58 eC_58 eL_58 eB_58 eF_58 eR_58 eU_58 eX_58 f2 f3 (f4 + (nI mn_54)) f5 (f6 + (1 : Int32)) f7 f14_58 ff_54 fa_54 mn_54 lg_54 cm_54 wa_54 H.size r_54) (cwV 1 hta (gV aw_681 aw_683 aw_29 aw_43 aw_684) rfl rfl rfl (by decide +kernel) ⟨Nat.le_of_ble_eq_true rfl, Nat.le_of_ble_eq_true rfl⟩) (cx_preVQ hK hP hN (va_recv hK hP (ci := 5) (q0 := 0) rfl rfl) hD) rfl rfl hl.1 rfl (lv_room (Nat.le_of_ble_eq_true rfl)) dX5_walk_148 ⟨Nat.le_of_ble_eq_true rfl, Nat.le_of_ble_eq_true rfl⟩) hS (fun q _ h => hFc q h) hFc (fun r_59 u t9 H1 locs ht hvm hw_59 hB hz1 hk1 hS => ?_)
              obtain ⟨f2_59, f3_59, f7_59⟩ := u
              obtain ⟨hP, hK1, hD1⟩ := hB
              rw [ht] at hP
              have hD := hD1.weaken (fun _ _ _ h => hFc _ h)
              clear hFc hz1 hk1 hK1 hD1 ht hvm
              generalize H1 = H at hP hS ⊢
              have hP : va_P (dC, dI) vwCl (MWl ga gk (0 : Int32) L N mm_57 f1 mr mh f8 en_58 us_58 eC_58 eL_58 eB_58 eF_58 eR_58 eU_58 eX_58 f2_59 f3_59 (f4 + (nI mn_54)) f5 (f6 + (1 : Int32)) f7_59 f14_58 ff_54 fa_54 mn_54 lg_54 cm_54 wa_54) H := hP
              have hD : va_D A (MWl ga gk (0 : Int32) L N mm_57 f1 mr mh f8 en_58 us_58 eC_58 eL_58 eB_58 eF_58 eR_58 eU_58 eX_58 f2_59 f3_59 (f4 + (nI mn_54)) f5 (f6 + (1 : Int32)) f7_59 f14_58 ff_54 fa_54 mn_54 lg_54 cm_54 wa_54) := hD
              exact W.iret (v := r_59) hx hb hr (fun t ht hW => ⟨⟨r_59, ((0 : Int32), mm_57, en_58, us_58, eC_58, eL_58, eB_58, eF_58, eR_58, eU_58, eX_58, f2_59, f3_59, f4 + (nI mn_54), f5, f6 + (1 : Int32), f7_59, f14_58, ff_54, fa_54, mn_54, lg_54, cm_54, wa_54), rfl, (by unfold mX5_walk; rewrite [if_neg c_7_1]; rewrite [← hw_3]; (try dsimp only); rewrite [if_neg c_29_5]; rewrite [if_pos c_46_44]; rewrite [← hw_54]; (try dsimp only); rewrite [if_neg c_132_54]; rewrite [← hw_57]; (try dsimp only); rewrite [← hw_58]; (try dsimp only); rewrite [← hw_59]; (try dsimp only); (first | done | rfl)), by rw [ht]; exact hP, va_K.moved hW.alike hK, hD⟩, hS.F ht⟩) hS.2.2 dX5_walk_151
          · exact absurd (by decide) c_57_52
    · exact absurd (by decide) c_19_3
  · refine lv_iconst (v := 1) hx hb dX5_walk_10 (by decide) ?_
    refine lv_goto (tgt := 15) hx hb dX5_walk_11 (by decide) ?_
    refine lv_iconst (v := 0) hx hb dX5_walk_15 (by decide) ?_
    have hFc : ∀ q, va_A (MWl ga gk th L N mm f1 mr mh f8 en us eC eL eB eF eR eU eX f2 f3 f4 f5 f6 f7 f14 ff fa mn lg cm wa) s.heap.size q → A q := cx_free hD hS hA
    refine va_calli (va_runV (As := [.int (1 : Int32), .int (0 : Int32)]) (rest := []) ⟨hx, hb, hml, hown, hta⟩ (c_X5_throwing l dC dI ga gk th L N mm f1 mr mh f8 en us eC eL eB eF eR eU eX f2 f3 f4 f5 f6 f7 f14 ff fa mn lg cm wa s.heap.size (1 : Int32) (0 : Int32)) (cwV 2 hta (gV aw_614 aw_616 aw_20 aw_43 aw_617) rfl rfl rfl (by decide +kernel) ⟨Nat.le_of_ble_eq_true rfl, Nat.le_of_ble_eq_true rfl⟩) (cx_preVQ hK hP hN (va_recv hK hP (ci := 5) (q0 := 0) rfl rfl) hD) rfl rfl hl.1 rfl (lv_room (Nat.le_of_ble_eq_true rfl)) dX5_walk_16 ⟨Nat.le_of_ble_eq_true rfl, Nat.le_of_ble_eq_true rfl⟩) hS (fun q _ h => hFc q h) hFc (fun r_60 u t9 H1 locs ht hvm hw_60 hB hz1 hk1 hS => ?_)
    obtain ⟨th_60, rfl⟩ : ∃ z, z = u := ⟨_, rfl⟩
    obtain ⟨hP, hK1, hD1⟩ := hB
    rw [ht] at hP
    have hD := hD1.weaken (fun _ _ _ h => hFc _ h)
    clear hFc hz1 hk1 hK1 hD1 ht hvm
    generalize H1 = H at hP hS ⊢
    have hP : va_P (dC, dI) vwCl (MWl ga gk th_60 L N mm f1 mr mh f8 en us eC eL eB eF eR eU eX f2 f3 f4 f5 f6 f7 f14 ff fa mn lg cm wa) H := hP
    have hD : va_D A (MWl ga gk th_60 L N mm f1 mr mh f8 en us eC eL eB eF eR eU eX f2 f3 f4 f5 f6 f7 f14 ff fa mn lg cm wa) := hD
    obtain ⟨rfl, rfl⟩ : r_60 = (1 : Int32) ∧ th_60 = (1 : Int32) := by
      have h9 := hw_60
      unfold mX5_throwing at h9
      cases h9
      exact ⟨rfl, rfl⟩
    refine lv_if_eq (tgt := 24) hx hb dX5_walk_19 (by decide) (fun c_19_60 => ?_) (fun c_19_60 => ?_)
    · exact absurd c_19_60 (by decide)
    · refine lv_iconst (v := 0) hx hb dX5_walk_22 (by decide) ?_
      exact W.iret (v := (0 : Int32)) hx hb hr (fun t ht hW => ⟨⟨(0 : Int32), ((1 : Int32), mm, en, us, eC, eL, eB, eF, eR, eU, eX, f2, f3, f4, f5, f6, f7, f14, ff, fa, mn, lg, cm, wa), rfl, (by unfold mX5_walk; rewrite [if_pos c_7_1]; rewrite [← hw_60]; (try dsimp only); (first | done | rfl)), by rw [ht]; exact hP, va_K.moved hW.alike hK, hD⟩, hS.F ht⟩) hS.2.2 dX5_walk_23
/-- PageRowsModel.plain -/
def mX5_plain (L : Nat) (mm : Nat → Int64) (f1 : Int32) (mr : Nat → Int32) (mh : Nat → Int32) (f8 : Int32) (ff : Int32) (fa : Int32) (mn : Nat) (lg : Int32) (cm : Int32) (wa : Nat → Int32) (p0 : Int32) (p1 : Int32) : Int32 × Int32 × Int32 × Int32 × Nat × Int32 × Int32 × (Nat → Int32) :=
  if (mX5_isOf p1 (6 : Int32)) = 0 then
    match mX5_throwing (1 : Int32) (0 : Int32) with
    | (r_7, th_7) =>
      ((0 : Int32), (1 : Int32), ff, fa, mn, lg, cm, wa)
  else
    match mX5_throwing (0 : Int32) (0 : Int32) with
    | (r_3, th_3) =>
      match mWk L mm f1 mr mh f8 fa lg cm wa p0 p1 with
      | (r_5, ff_5, fa_5, mn_5, lg_5, cm_5, wa_5) =>
        if r_5 = 0 then
          (-ff_5, (0 : Int32), ff_5, fa_5, mn_5, lg_5, cm_5, wa_5)
        else
          (cm_5, (0 : Int32), ff_5, fa_5, mn_5, lg_5, cm_5, wa_5)
set_option maxHeartbeats 4000000 in
set_option maxRecDepth 100000 in
theorem c_X5_plain (l : Launch) (dC : Nat → ClassId) (dI : Nat → Nat → Nat) (ga : Nat → Nat) (gk : Nat → ClassId) (th : Int32) (L : Nat) (N : Nat) (mm : Nat → Int64) (f1 : Int32) (mr : Nat → Int32) (mh : Nat → Int32) (f8 : Int32) (en : Nat) (us : Nat) (eC : Nat → Int32) (eL : Nat → Int32) (eB : Nat → Int32) (eF : Nat → Int32) (eR : Nat → Int32) (eU : Nat → Int32) (eX : Nat → Int32) (f2 : Int32) (f3 : Int32) (f4 : Int32) (f5 : Int32) (f6 : Int32) (f7 : Int32) (f14 : Int32) (ff : Int32) (fa : Int32) (mn : Nat) (lg : Int32) (cm : Int32) (wa : Nat → Int32)  (sz : Nat) (p0 : Int32) (p1 : Int32) (hL1 : 1 ≤ L) (hL4 : L ≤ 4) (hf1 : vp_in f1 4) : Met l yX5_plain (wX5_plain :: AW) ({ frames := 4, cells := 0, slots := 0, locals := 96 }) (va_Pc [.ref (ga 0), .int p0, .int p1] (CPrQ dC dI (MWl ga gk th L N mm f1 mr mh f8 en us eC eL eB eF eR eU eX f2 f3 f4 f5 f6 f7 f14 ff fa mn lg cm wa) [(gk 0, .long), (gk 1, .int), (gk 2, .int), (gk 3, .int), (gk 4, .int), (gk 5, .int), (gk 6, .int), (gk 7, .int), (gk 8, .int), (gk 9, .boolean), (gk 10, .int)] sz)) (va_Qi (fun (r : Int32) (u : Int32 × Int32 × Int32 × Nat × Int32 × Int32 × (Nat → Int32)) => (r, u) = mX5_plain L mm f1 mr mh f8 ff fa mn lg cm wa p0 p1) (fun (u : Int32 × Int32 × Int32 × Nat × Int32 × Int32 × (Nat → Int32)) (t : State) => match u with | (th', ff', fa', mn', lg', cm', wa') => va_P (dC, dI) vwCl (MWl ga gk th' L N mm f1 mr mh f8 en us eC eL eB eF eR eU eX f2 f3 f4 f5 f6 f7 f14 ff' fa' mn' lg' cm' wa') t.heap ∧ va_K (dC, dI) vwCl [(gk 0, .long), (gk 1, .int), (gk 2, .int), (gk 3, .int), (gk 4, .int), (gk 5, .int), (gk 6, .int), (gk 7, .int), (gk 8, .int), (gk 9, .boolean), (gk 10, .int)] t ∧ va_D (va_A (MWl ga gk th L N mm f1 mr mh f8 en us eC eL eB eF eR eU eX f2 f3 f4 f5 f6 f7 f14 ff fa mn lg cm wa) sz) (MWl ga gk th' L N mm f1 mr mh f8 en us eC eL eB eF eR eU eX f2 f3 f4 f5 f6 f7 f14 ff' fa' mn' lg' cm' wa')) (va_A (MWl ga gk th L N mm f1 mr mh f8 en us eC eL eB eF eR eU eX f2 f3 f4 f5 f6 f7 f14 ff fa mn lg cm wa) sz)) 0 0 (va_A (MWl ga gk th L N mm f1 mr mh f8 en us eC eL eB eF eR eU eX f2 f3 f4 f5 f6 f7 f14 ff fa mn lg cm wa) sz) := by
  refine cx_of (cc := cX5_plain) (maxL := 3) (ret := some .int) (by decide) rfl (Nat.le_of_ble_eq_true rfl) ?_
  intro p e s m below meth c ls hx hb hr hts hown hlocks hml hnm hl hB
  have hta : ∀ w ∈ AW, w.before [.ref (ga 0), .int p0, .int p1].toArray s = true := fun w h => hts w (List.mem_cons_of_mem _ h)
  have hl : lv_has ls 3 [(0, .ref (ga 0)), (1, .int p0), (2, .int p1)] := hl
  have hown : s.vm.findClass RX5 = some m.cls := hown
  obtain ⟨rfl, ⟨hP, hK, hN⟩, hD0⟩ := hB
  have hD := hD0.self (sz := s.heap.size)
  generalize hAe : va_A (MWl ga gk th L N mm f1 mr mh f8 en us eC eL eB eF eR eU eX f2 f3 f4 f5 f6 f7 f14 ff fa mn lg cm wa) s.heap.size = A at hD ⊢
  have hA : ∀ q : Nat, s.heap.size ≤ q → A q := fun q h => by rw [← hAe]; exact Or.inr h
  have hS : va_S A s.heap s.heap [] := va_S.rf
  refine lv_aload_n hx hb dX5_plain_0 rfl (lv_at hl 0 rfl) ?_
  refine lv_iload_n hx hb dX5_plain_1 rfl (lv_at hl 2 rfl) ?_
  refine lv_bipush (v := 6) hx hb dX5_plain_2 (by decide) ?_
  refine cx_callSi (va_runS (As := [.int p1, .int (6 : Int32)]) (rest := [.ref (ga 0)]) ⟨hx, hb, hml, hown, hta⟩ (c_X5_isOf l p1 (6 : Int32)) (va_cwS 2 hta (gS aw_611 aw_612 aw_43 aw_613) rfl rfl rfl (by decide +kernel) ⟨Nat.le_of_ble_eq_true rfl, Nat.le_of_ble_eq_true rfl⟩) cx_pre0 rfl rfl hl.1 rfl (lv_room (Nat.le_of_ble_eq_true rfl)) dX5_plain_4 ⟨Nat.le_of_ble_eq_true rfl, Nat.le_of_ble_eq_true rfl⟩) (fun r hw_1 => ?_)
  subst hw_1
  refine lv_if_ne (tgt := 14) hx hb dX5_plain_7 (by decide) (fun c_7_1 => ?_) (fun c_7_1 => ?_)
  · refine lv_iconst (v := 0) hx hb dX5_plain_14 (by decide) ?_
    refine lv_iconst (v := 0) hx hb dX5_plain_15 (by decide) ?_
    have hFc : ∀ q, va_A (MWl ga gk th L N mm f1 mr mh f8 en us eC eL eB eF eR eU eX f2 f3 f4 f5 f6 f7 f14 ff fa mn lg cm wa) s.heap.size q → A q := cx_free hD hS hA
    refine va_calli (va_runV (As := [.int (0 : Int32), .int (0 : Int32)]) (rest := []) ⟨hx, hb, hml, hown, hta⟩ (c_X5_throwing l dC dI ga gk th L N mm f1 mr mh f8 en us eC eL eB eF eR eU eX f2 f3 f4 f5 f6 f7 f14 ff fa mn lg cm wa s.heap.size (0 : Int32) (0 : Int32)) (cwV 2 hta (gV aw_614 aw_616 aw_20 aw_43 aw_617) rfl rfl rfl (by decide +kernel) ⟨Nat.le_of_ble_eq_true rfl, Nat.le_of_ble_eq_true rfl⟩) (cx_preVQ hK hP hN (va_recv hK hP (ci := 5) (q0 := 0) rfl rfl) hD) rfl rfl hl.1 rfl (lv_room (Nat.le_of_ble_eq_true rfl)) dX5_plain_16 ⟨Nat.le_of_ble_eq_true rfl, Nat.le_of_ble_eq_true rfl⟩) hS (fun q _ h => hFc q h) hFc (fun r_3 u t9 H1 locs ht hvm hw_3 hB hz1 hk1 hS => ?_)
    obtain ⟨th_3, rfl⟩ : ∃ z, z = u := ⟨_, rfl⟩
    obtain ⟨hP, hK1, hD1⟩ := hB
    rw [ht] at hP
    have hD := hD1.weaken (fun _ _ _ h => hFc _ h)
    clear hFc hz1 hk1 hK1 hD1 ht hvm
    generalize H1 = H at hP hS ⊢
    have hP : va_P (dC, dI) vwCl (MWl ga gk th_3 L N mm f1 mr mh f8 en us eC eL eB eF eR eU eX f2 f3 f4 f5 f6 f7 f14 ff fa mn lg cm wa) H := hP
    have hD : va_D A (MWl ga gk th_3 L N mm f1 mr mh f8 en us eC eL eB eF eR eU eX f2 f3 f4 f5 f6 f7 f14 ff fa mn lg cm wa) := hD
    obtain ⟨rfl, rfl⟩ : r_3 = (0 : Int32) ∧ th_3 = (0 : Int32) := by
      have h9 := hw_3
      unfold mX5_throwing at h9
      cases h9
      exact ⟨rfl, rfl⟩
    refine lv_if_eq (tgt := 24) hx hb dX5_plain_19 (by decide) (fun c_19_3 => ?_) (fun c_19_3 => ?_)
    · refine lv_aload_n hx hb dX5_plain_24 rfl (lv_at hl 0 rfl) ?_
      refine lv_iload_n hx hb dX5_plain_25 rfl (lv_at hl 1 rfl) ?_
      refine lv_iload_n hx hb dX5_plain_26 rfl (lv_at hl 2 rfl) ?_
      have hFc : ∀ q, va_A (MWl ga gk (0 : Int32) L N mm f1 mr mh f8 en us eC eL eB eF eR eU eX f2 f3 f4 f5 f6 f7 f14 ff fa mn lg cm wa) H.size q → A q := cx_free hD hS hA
      refine va_calli (va_runV (As := [.int p0, .int p1]) (rest := []) ⟨hx, hb, hml, hown, hta⟩ (c_X5_walks l dC dI ga gk (0 : Int32) L N mm f1 mr mh f8 en us eC eL eB eF eR eU eX f2 f3 f4 f5 f6 f7 f14 ff fa mn lg cm wa H.size p0 p1 hL1 hL4 hf1) (cwV 2 hta (gV aw_685 aw_687 aw_30 aw_43 aw_688) rfl rfl rfl (by decide +kernel) ⟨Nat.le_of_ble_eq_true rfl, Nat.le_of_ble_eq_true rfl⟩) (cx_preVQ hK hP hN (va_recv hK hP (ci := 5) (q0 := 0) rfl rfl) hD) rfl rfl hl.1 rfl (lv_room (Nat.le_of_ble_eq_true rfl)) dX5_plain_27 ⟨Nat.le_of_ble_eq_true rfl, Nat.le_of_ble_eq_true rfl⟩) hS (fun q _ h => hFc q h) hFc (fun r_5 u t9 H1 locs ht hvm hw_5 hB hz1 hk1 hS => ?_)
      obtain ⟨ff_5, fa_5, mn_5, lg_5, cm_5, wa_5⟩ := u
      obtain ⟨hP, hK1, hD1⟩ := hB
      rw [ht] at hP
      have hD := hD1.weaken (fun _ _ _ h => hFc _ h)
      clear hFc hz1 hk1 hK1 hD1 ht hvm
      generalize H1 = H at hP hS ⊢
      have hP : va_P (dC, dI) vwCl (MWl ga gk (0 : Int32) L N mm f1 mr mh f8 en us eC eL eB eF eR eU eX f2 f3 f4 f5 f6 f7 f14 ff_5 fa_5 mn_5 lg_5 cm_5 wa_5) H := hP
      have hD : va_D A (MWl ga gk (0 : Int32) L N mm f1 mr mh f8 en us eC eL eB eF eR eU eX f2 f3 f4 f5 f6 f7 f14 ff_5 fa_5 mn_5 lg_5 cm_5 wa_5) := hD
      obtain ⟨hmn49, hwa9, hgd9⟩ := wk_ok hw_5 hL4
      refine lv_if_eq (tgt := 40) hx hb dX5_plain_30 (by decide) (fun c_30_5 => ?_) (fun c_30_5 => ?_)
      · refine lv_aload_n hx hb dX5_plain_40 rfl (lv_at hl 0 rfl) ?_
        refine va_get (D := (dC, dI)) (ci := 5) (v := .int ff_5) (C := RX5) (T := TX5) (N := 30) hx hb hta inA_X5 hown hK hP 0 rfl rfl 24 (by decide) (hta _ aw_535) (fun _ h9 => h9) rfl dX5_plain_41 ?_
        refine lv_ineg hx hb dX5_plain_44 ?_
        exact W.iret (v := -ff_5) hx hb hr (fun t ht hW => ⟨⟨-ff_5, ((0 : Int32), ff_5, fa_5, mn_5, lg_5, cm_5, wa_5), rfl, (by unfold mX5_plain; rewrite [if_neg c_7_1]; rewrite [← hw_3]; (try dsimp only); rewrite [← hw_5]; (try dsimp only); rewrite [if_pos c_30_5]; (first | done | rfl)), by rw [ht]; exact hP, va_K.moved hW.alike hK, hD⟩, hS.F ht⟩) hS.2.2 dX5_plain_45
      · refine lv_aload_n hx hb dX5_plain_33 rfl (lv_at hl 0 rfl) ?_
        refine va_get (D := (dC, dI)) (ci := 5) (v := .int cm_5) (C := RX5) (T := TX5) (N := 30) hx hb hta inA_X5 hown hK hP 0 rfl rfl 28 (by decide) (hta _ aw_539) (fun _ h9 => h9) rfl dX5_plain_34 ?_
        refine lv_goto (tgt := 45) hx hb dX5_plain_37 (by decide) ?_
        exact W.iret (v := cm_5) hx hb hr (fun t ht hW => ⟨⟨cm_5, ((0 : Int32), ff_5, fa_5, mn_5, lg_5, cm_5, wa_5), rfl, (by unfold mX5_plain; rewrite [if_neg c_7_1]; rewrite [← hw_3]; (try dsimp only); rewrite [← hw_5]; (try dsimp only); rewrite [if_neg c_30_5]; (first | done | rfl)), by rw [ht]; exact hP, va_K.moved hW.alike hK, hD⟩, hS.F ht⟩) hS.2.2 dX5_plain_45
    · exact absurd (by decide) c_19_3
  · refine lv_iconst (v := 1) hx hb dX5_plain_10 (by decide) ?_
    refine lv_goto (tgt := 15) hx hb dX5_plain_11 (by decide) ?_
    refine lv_iconst (v := 0) hx hb dX5_plain_15 (by decide) ?_
    have hFc : ∀ q, va_A (MWl ga gk th L N mm f1 mr mh f8 en us eC eL eB eF eR eU eX f2 f3 f4 f5 f6 f7 f14 ff fa mn lg cm wa) s.heap.size q → A q := cx_free hD hS hA
    refine va_calli (va_runV (As := [.int (1 : Int32), .int (0 : Int32)]) (rest := []) ⟨hx, hb, hml, hown, hta⟩ (c_X5_throwing l dC dI ga gk th L N mm f1 mr mh f8 en us eC eL eB eF eR eU eX f2 f3 f4 f5 f6 f7 f14 ff fa mn lg cm wa s.heap.size (1 : Int32) (0 : Int32)) (cwV 2 hta (gV aw_614 aw_616 aw_20 aw_43 aw_617) rfl rfl rfl (by decide +kernel) ⟨Nat.le_of_ble_eq_true rfl, Nat.le_of_ble_eq_true rfl⟩) (cx_preVQ hK hP hN (va_recv hK hP (ci := 5) (q0 := 0) rfl rfl) hD) rfl rfl hl.1 rfl (lv_room (Nat.le_of_ble_eq_true rfl)) dX5_plain_16 ⟨Nat.le_of_ble_eq_true rfl, Nat.le_of_ble_eq_true rfl⟩) hS (fun q _ h => hFc q h) hFc (fun r_7 u t9 H1 locs ht hvm hw_7 hB hz1 hk1 hS => ?_)
    obtain ⟨th_7, rfl⟩ : ∃ z, z = u := ⟨_, rfl⟩
    obtain ⟨hP, hK1, hD1⟩ := hB
    rw [ht] at hP
    have hD := hD1.weaken (fun _ _ _ h => hFc _ h)
    clear hFc hz1 hk1 hK1 hD1 ht hvm
    generalize H1 = H at hP hS ⊢
    have hP : va_P (dC, dI) vwCl (MWl ga gk th_7 L N mm f1 mr mh f8 en us eC eL eB eF eR eU eX f2 f3 f4 f5 f6 f7 f14 ff fa mn lg cm wa) H := hP
    have hD : va_D A (MWl ga gk th_7 L N mm f1 mr mh f8 en us eC eL eB eF eR eU eX f2 f3 f4 f5 f6 f7 f14 ff fa mn lg cm wa) := hD
    obtain ⟨rfl, rfl⟩ : r_7 = (1 : Int32) ∧ th_7 = (1 : Int32) := by
      have h9 := hw_7
      unfold mX5_throwing at h9
      cases h9
      exact ⟨rfl, rfl⟩
    refine lv_if_eq (tgt := 24) hx hb dX5_plain_19 (by decide) (fun c_19_7 => ?_) (fun c_19_7 => ?_)
    · exact absurd c_19_7 (by decide)
    · refine lv_iconst (v := 0) hx hb dX5_plain_22 (by decide) ?_
      exact W.iret (v := (0 : Int32)) hx hb hr (fun t ht hW => ⟨⟨(0 : Int32), ((1 : Int32), ff, fa, mn, lg, cm, wa), rfl, (by unfold mX5_plain; rewrite [if_pos c_7_1]; rewrite [← hw_7]; (try dsimp only); (first | done | rfl)), by rw [ht]; exact hP, va_K.moved hW.alike hK, hD⟩, hS.F ht⟩) hS.2.2 dX5_plain_23
/-- PageRowsModel.isStale -/
def mX5_isStale (L : Nat) (mm : Nat → Int64) (f1 : Int32) (mr : Nat → Int32) (mh : Nat → Int32) (f8 : Int32) (eL : Nat → Int32) (eB : Nat → Int32) (eF : Nat → Int32) (eR : Nat → Int32) (fa : Int32) (lg : Int32) (cm : Int32) (wa : Nat → Int32) (p0 : Nat) (p1 : Int32) : Int32 × Int32 × Int32 × Nat × Int32 × Int32 × (Nat → Int32) :=
  match mWk L mm f1 mr mh f8 fa lg cm wa ((eB p0) <<< (((8 : Int32) + ((4 : Int32) * (eL p0))) &&& 31)) p1 with
  | (r_1, ff_1, fa_1, mn_1, lg_1, cm_1, wa_1) =>
    if (mX5_does (eR p0) p1) = 0 then
      if r_1 = (0 : Int32) then
        if r_1 = 0 then
          ((0 : Int32), ff_1, fa_1, mn_1, lg_1, cm_1, wa_1)
        else
          if cm_1 = cm_1 then
            ((0 : Int32), ff_1, fa_1, mn_1, lg_1, cm_1, wa_1)
          else
            ((1 : Int32), ff_1, fa_1, mn_1, lg_1, cm_1, wa_1)
      else
        ((1 : Int32), ff_1, fa_1, mn_1, lg_1, cm_1, wa_1)
    else
      match mX5_ends L mh f8 ff_1 fa_1 cm_1 (eF p0) (eL p0) ((eB p0) <<< (((8 : Int32) + ((4 : Int32) * (eL p0))) &&& 31)) with
      | (r_7, ff_7, fa_7, cm_7) =>
        if r_7 = 0 then
          if r_1 = (0 : Int32) then
            if r_1 = 0 then
              ((0 : Int32), ff_7, fa_7, mn_1, lg_1, cm_7, wa_1)
            else
              if cm_1 = cm_7 then
                ((0 : Int32), ff_7, fa_7, mn_1, lg_1, cm_7, wa_1)
              else
                ((1 : Int32), ff_7, fa_7, mn_1, lg_1, cm_7, wa_1)
          else
            ((1 : Int32), ff_7, fa_7, mn_1, lg_1, cm_7, wa_1)
        else
          if r_1 = (1 : Int32) then
            if r_1 = 0 then
              ((0 : Int32), ff_7, fa_7, mn_1, lg_1, cm_7, wa_1)
            else
              if cm_1 = cm_7 then
                ((0 : Int32), ff_7, fa_7, mn_1, lg_1, cm_7, wa_1)
              else
                ((1 : Int32), ff_7, fa_7, mn_1, lg_1, cm_7, wa_1)
          else
            ((1 : Int32), ff_7, fa_7, mn_1, lg_1, cm_7, wa_1)
set_option maxHeartbeats 4000000 in
set_option maxRecDepth 100000 in
theorem c_X5_isStale (l : Launch) (dC : Nat → ClassId) (dI : Nat → Nat → Nat) (ga : Nat → Nat) (gk : Nat → ClassId) (th : Int32) (L : Nat) (N : Nat) (mm : Nat → Int64) (f1 : Int32) (mr : Nat → Int32) (mh : Nat → Int32) (f8 : Int32) (en : Nat) (us : Nat) (eC : Nat → Int32) (eL : Nat → Int32) (eB : Nat → Int32) (eF : Nat → Int32) (eR : Nat → Int32) (eU : Nat → Int32) (eX : Nat → Int32) (f2 : Int32) (f3 : Int32) (f4 : Int32) (f5 : Int32) (f6 : Int32) (f7 : Int32) (f14 : Int32) (ff : Int32) (fa : Int32) (mn : Nat) (lg : Int32) (cm : Int32) (wa : Nat → Int32)  (sz : Nat) (p0 : Nat) (p1 : Int32) (hL1 : 1 ≤ L) (hL4 : L ≤ 4) (hf1 : vp_in f1 4) (hp : p0 < 32) : Met l yX5_isStale (wX5_isStale :: AW) ({ frames := 4, cells := 0, slots := 0, locals := 96 }) (va_Pc [.ref (ga 0), .int (nI p0), .int p1] (CPrQ dC dI (MWl ga gk th L N mm f1 mr mh f8 en us eC eL eB eF eR eU eX f2 f3 f4 f5 f6 f7 f14 ff fa mn lg cm wa) [(gk 0, .long), (gk 1, .int), (gk 2, .int), (gk 3, .int), (gk 4, .int), (gk 5, .int), (gk 6, .int), (gk 7, .int), (gk 8, .int), (gk 9, .boolean), (gk 10, .int)] sz)) (va_Qi (fun (r : Int32) (u : Int32 × Int32 × Nat × Int32 × Int32 × (Nat → Int32)) => (r, u) = mX5_isStale L mm f1 mr mh f8 eL eB eF eR fa lg cm wa p0 p1) (fun (u : Int32 × Int32 × Nat × Int32 × Int32 × (Nat → Int32)) (t : State) => match u with | (ff', fa', mn', lg', cm', wa') => va_P (dC, dI) vwCl (MWl ga gk th L N mm f1 mr mh f8 en us eC eL eB eF eR eU eX f2 f3 f4 f5 f6 f7 f14 ff' fa' mn' lg' cm' wa') t.heap ∧ va_K (dC, dI) vwCl [(gk 0, .long), (gk 1, .int), (gk 2, .int), (gk 3, .int), (gk 4, .int), (gk 5, .int), (gk 6, .int), (gk 7, .int), (gk 8, .int), (gk 9, .boolean), (gk 10, .int)] t ∧ va_D (va_A (MWl ga gk th L N mm f1 mr mh f8 en us eC eL eB eF eR eU eX f2 f3 f4 f5 f6 f7 f14 ff fa mn lg cm wa) sz) (MWl ga gk th L N mm f1 mr mh f8 en us eC eL eB eF eR eU eX f2 f3 f4 f5 f6 f7 f14 ff' fa' mn' lg' cm' wa')) (va_A (MWl ga gk th L N mm f1 mr mh f8 en us eC eL eB eF eR eU eX f2 f3 f4 f5 f6 f7 f14 ff fa mn lg cm wa) sz)) 0 0 (va_A (MWl ga gk th L N mm f1 mr mh f8 en us eC eL eB eF eR eU eX f2 f3 f4 f5 f6 f7 f14 ff fa mn lg cm wa) sz) := by
  refine cx_of (cc := cX5_isStale) (maxL := 7) (ret := some .boolean) (by decide) rfl (Nat.le_of_ble_eq_true rfl) ?_
  intro p e s m below meth c ls hx hb hr hts hown hlocks hml hnm hl hB
  have hta : ∀ w ∈ AW, w.before [.ref (ga 0), .int (nI p0), .int p1].toArray s = true := fun w h => hts w (List.mem_cons_of_mem _ h)
  have hl : lv_has ls 7 [(0, .ref (ga 0)), (1, .int (nI p0)), (2, .int p1)] := hl
  have hown : s.vm.findClass RX5 = some m.cls := hown
  obtain ⟨rfl, ⟨hP, hK, hN⟩, hD0⟩ := hB
  have hD := hD0.self (sz := s.heap.size)
  generalize hAe : va_A (MWl ga gk th L N mm f1 mr mh f8 en us eC eL eB eF eR eU eX f2 f3 f4 f5 f6 f7 f14 ff fa mn lg cm wa) s.heap.size = A at hD ⊢
  have hA : ∀ q : Nat, s.heap.size ≤ q → A q := fun q h => by rw [← hAe]; exact Or.inr h
  have hS : va_S A s.heap s.heap [] := va_S.rf
  refine lv_aload_n hx hb dX5_isStale_0 rfl (lv_at hl 0 rfl) ?_
  refine va_get (D := (dC, dI)) (ci := 5) (v := .ref (ga 6)) (C := RX5) (T := TX5) (N := 30) hx hb hta inA_X5 hown hK hP 0 rfl rfl 12 (by decide) (hta _ aw_523) (fun _ h9 => h9) rfl dX5_isStale_1 ?_
  refine lv_iload_n hx hb dX5_isStale_4 rfl (lv_at hl 1 rfl) ?_
  refine va_iald hx hb hK hP 6 5 rfl rfl (vp_in_nI (by omega) (by omega)) dX5_isStale_5 ?_
  rw [nI_clamp (show p0 < 2 ^ 31 by omega)]
  refine lv_bipush (v := 8) hx hb dX5_isStale_6 (by decide) ?_
  refine lv_iconst (v := 4) hx hb dX5_isStale_8 (by decide) ?_
  refine lv_aload_n hx hb dX5_isStale_9 rfl (lv_at hl 0 rfl) ?_
  refine va_get (D := (dC, dI)) (ci := 5) (v := .ref (ga 5)) (C := RX5) (T := TX5) (N := 30) hx hb hta inA_X5 hown hK hP 0 rfl rfl 11 (by decide) (hta _ aw_522) (fun _ h9 => h9) rfl dX5_isStale_10 ?_
  refine lv_iload_n hx hb dX5_isStale_13 rfl (lv_at hl 1 rfl) ?_
  refine va_iald hx hb hK hP 5 4 rfl rfl (vp_in_nI (by omega) (by omega)) dX5_isStale_14 ?_
  rw [nI_clamp (show p0 < 2 ^ 31 by omega)]
  refine lv_imul hx hb dX5_isStale_15 ?_
  refine lv_iadd hx hb dX5_isStale_16 ?_
  refine lv_ishl hx hb dX5_isStale_17 ?_
  refine lv_istore_n (lv' := [(3, .int ((eB p0) <<< (((8 : Int32) + ((4 : Int32) * (eL p0))) &&& 31))), (0, .ref (ga 0)), (1, .int (nI p0)), (2, .int p1)]) hx hb dX5_isStale_18 rfl hl (by decide) rfl (fun ls hl => ?_)
  refine lv_aload_n hx hb dX5_isStale_19 rfl (lv_at hl 1 rfl) ?_
  refine lv_iload_n hx hb dX5_isStale_20 rfl (lv_at hl 0 rfl) ?_
  refine lv_iload_n hx hb dX5_isStale_21 rfl (lv_at hl 3 rfl) ?_
  have hFc : ∀ q, va_A (MWl ga gk th L N mm f1 mr mh f8 en us eC eL eB eF eR eU eX f2 f3 f4 f5 f6 f7 f14 ff fa mn lg cm wa) s.heap.size q → A q := cx_free hD hS hA
  refine va_calli (va_runV (As := [.int ((eB p0) <<< (((8 : Int32) + ((4 : Int32) * (eL p0))) &&& 31)), .int p1]) (rest := []) ⟨hx, hb, hml, hown, hta⟩ (c_X5_walks l dC dI ga gk th L N mm f1 mr mh f8 en us eC eL eB eF eR eU eX f2 f3 f4 f5 f6 f7 f14 ff fa mn lg cm wa s.heap.size ((eB p0) <<< (((8 : Int32) + ((4 : Int32) * (eL p0))) &&& 31)) p1 hL1 hL4 hf1) (cwV 2 hta (gV aw_685 aw_687 aw_30 aw_43 aw_688) rfl rfl rfl (by decide +kernel) ⟨Nat.le_of_ble_eq_true rfl, Nat.le_of_ble_eq_true rfl⟩) (cx_preVQ hK hP hN (va_recv hK hP (ci := 5) (q0 := 0) rfl rfl) hD) rfl rfl hl.1 rfl (lv_room (Nat.le_of_ble_eq_true rfl)) dX5_isStale_22 ⟨Nat.le_of_ble_eq_true rfl, Nat.le_of_ble_eq_true rfl⟩) hS (fun q _ h => hFc q h) hFc (fun r_1 u t9 H1 locs ht hvm hw_1 hB hz1 hk1 hS => ?_)
  obtain ⟨ff_1, fa_1, mn_1, lg_1, cm_1, wa_1⟩ := u
  obtain ⟨hP, hK1, hD1⟩ := hB
  rw [ht] at hP
  have hD := hD1.weaken (fun _ _ _ h => hFc _ h)
  clear hFc hz1 hk1 hK1 hD1 ht hvm
  generalize H1 = H at hP hS ⊢
  have hP : va_P (dC, dI) vwCl (MWl ga gk th L N mm f1 mr mh f8 en us eC eL eB eF eR eU eX f2 f3 f4 f5 f6 f7 f14 ff_1 fa_1 mn_1 lg_1 cm_1 wa_1) H := hP
  have hD : va_D A (MWl ga gk th L N mm f1 mr mh f8 en us eC eL eB eF eR eU eX f2 f3 f4 f5 f6 f7 f14 ff_1 fa_1 mn_1 lg_1 cm_1 wa_1) := hD
  obtain ⟨hmn49, hwa9, hgd9⟩ := wk_ok hw_1 hL4
  refine lv_istore (lv' := [(4, .int r_1), (3, .int ((eB p0) <<< (((8 : Int32) + ((4 : Int32) * (eL p0))) &&& 31))), (0, .ref (ga 0)), (1, .int (nI p0)), (2, .int p1)]) hx hb dX5_isStale_25 hl (by decide) rfl (fun ls hl => ?_)
  refine lv_aload_n hx hb dX5_isStale_27 rfl (lv_at hl 2 rfl) ?_
  refine va_get (D := (dC, dI)) (ci := 5) (v := .int cm_1) (C := RX5) (T := TX5) (N := 30) hx hb hta inA_X5 hown hK hP 0 rfl rfl 28 (by decide) (hta _ aw_539) (fun _ h9 => h9) rfl dX5_isStale_28 ?_
  refine lv_istore (lv' := [(5, .int cm_1), (4, .int r_1), (3, .int ((eB p0) <<< (((8 : Int32) + ((4 : Int32) * (eL p0))) &&& 31))), (0, .ref (ga 0)), (1, .int (nI p0)), (2, .int p1)]) hx hb dX5_isStale_31 hl (by decide) rfl (fun ls hl => ?_)
  refine lv_aload_n hx hb dX5_isStale_33 rfl (lv_at hl 3 rfl) ?_
  refine va_get (D := (dC, dI)) (ci := 5) (v := .ref (ga 8)) (C := RX5) (T := TX5) (N := 30) hx hb hta inA_X5 hown hK hP 0 rfl rfl 14 (by decide) (hta _ aw_525) (fun _ h9 => h9) rfl dX5_isStale_34 ?_
  refine lv_iload_n hx hb dX5_isStale_37 rfl (lv_at hl 4 rfl) ?_
  refine va_iald hx hb hK hP 8 7 rfl rfl (vp_in_nI (by omega) (by omega)) dX5_isStale_38 ?_
  rw [nI_clamp (show p0 < 2 ^ 31 by omega)]
  refine lv_iload_n hx hb dX5_isStale_39 rfl (lv_at hl 5 rfl) ?_
  refine cx_callSi (va_runS (As := [.int (eR p0), .int p1]) (rest := []) ⟨hx, hb, hml, hown, hta⟩ (c_X5_does l (eR p0) p1) (va_cwS 2 hta (gS aw_655 aw_656 aw_43 aw_657) rfl rfl rfl (by decide +kernel) ⟨Nat.le_of_ble_eq_true rfl, Nat.le_of_ble_eq_true rfl⟩) cx_pre0 rfl rfl hl.1 rfl (lv_room (Nat.le_of_ble_eq_true rfl)) dX5_isStale_40 ⟨Nat.le_of_ble_eq_true rfl, Nat.le_of_ble_eq_true rfl⟩) (fun r hw_2 => ?_)
  subst hw_2
  refine lv_if_eq (tgt := 70) hx hb dX5_isStale_43 (by decide) (fun c_43_2 => ?_) (fun c_43_2 => ?_)
  · refine lv_iconst (v := 0) hx hb dX5_isStale_70 (by decide) ?_
    refine lv_istore (lv' := [(6, .int (0 : Int32)), (5, .int cm_1), (4, .int r_1), (3, .int ((eB p0) <<< (((8 : Int32) + ((4 : Int32) * (eL p0))) &&& 31))), (0, .ref (ga 0)), (1, .int (nI p0)), (2, .int p1)]) hx hb dX5_isStale_71 hl (by decide) rfl (fun ls hl => ?_)
    refine lv_iload hx hb dX5_isStale_73 (lv_at hl 2 rfl) ?_
    refine lv_iload hx hb dX5_isStale_75 (lv_at hl 0 rfl) ?_
    refine lv_icmp_ne (tgt := 94) hx hb dX5_isStale_77 (by decide) (fun c_77_3 => ?_) (fun c_77_3 => ?_)
    · refine lv_iconst (v := 1) hx hb dX5_isStale_94 (by decide) ?_
      refine lv_goto (tgt := 99) hx hb dX5_isStale_95 (by decide) ?_
      exact W.zret (ty := .boolean) (v := (1 : Int32)) hx hb hr rfl (fun t ht hW => ⟨⟨(1 : Int32), (ff_1, fa_1, mn_1, lg_1, cm_1, wa_1), rfl, (by unfold mX5_isStale; rewrite [← hw_1]; (try dsimp only); rewrite [if_pos c_43_2]; rewrite [if_neg c_77_3]; (first | done | rfl)), by rw [ht]; exact hP, va_K.moved hW.alike hK, hD⟩, hS.F ht⟩) hS.2.2 dX5_isStale_99
    · refine lv_iload hx hb dX5_isStale_80 (lv_at hl 2 rfl) ?_
      refine lv_if_eq (tgt := 98) hx hb dX5_isStale_82 (by decide) (fun c_82_4 => ?_) (fun c_82_4 => ?_)
      · refine lv_iconst (v := 0) hx hb dX5_isStale_98 (by decide) ?_
        exact W.zret (ty := .boolean) (v := (0 : Int32)) hx hb hr rfl (fun t ht hW => ⟨⟨(0 : Int32), (ff_1, fa_1, mn_1, lg_1, cm_1, wa_1), rfl, (by unfold mX5_isStale; rewrite [← hw_1]; (try dsimp only); rewrite [if_pos c_43_2]; rewrite [if_pos c_77_3]; rewrite [if_pos c_82_4]; (first | done | rfl)), by rw [ht]; exact hP, va_K.moved hW.alike hK, hD⟩, hS.F ht⟩) hS.2.2 dX5_isStale_99
      · refine lv_iload hx hb dX5_isStale_85 (lv_at hl 1 rfl) ?_
        refine lv_aload_n hx hb dX5_isStale_87 rfl (lv_at hl 4 rfl) ?_
        refine va_get (D := (dC, dI)) (ci := 5) (v := .int cm_1) (C := RX5) (T := TX5) (N := 30) hx hb hta inA_X5 hown hK hP 0 rfl rfl 28 (by decide) (hta _ aw_539) (fun _ h9 => h9) rfl dX5_isStale_88 ?_
        refine lv_icmp_eq (tgt := 98) hx hb dX5_isStale_91 (by decide) (fun c_91_5 => ?_) (fun c_91_5 => ?_)
        · refine lv_iconst (v := 0) hx hb dX5_isStale_98 (by decide) ?_
          exact W.zret (ty := .boolean) (v := (0 : Int32)) hx hb hr rfl (fun t ht hW => ⟨⟨(0 : Int32), (ff_1, fa_1, mn_1, lg_1, cm_1, wa_1), rfl, (by unfold mX5_isStale; rewrite [← hw_1]; (try dsimp only); rewrite [if_pos c_43_2]; rewrite [if_pos c_77_3]; rewrite [if_neg c_82_4]; rewrite [if_pos c_91_5]; (first | done | rfl)), by rw [ht]; exact hP, va_K.moved hW.alike hK, hD⟩, hS.F ht⟩) hS.2.2 dX5_isStale_99
        · refine lv_iconst (v := 1) hx hb dX5_isStale_94 (by decide) ?_
          refine lv_goto (tgt := 99) hx hb dX5_isStale_95 (by decide) ?_
          exact W.zret (ty := .boolean) (v := (1 : Int32)) hx hb hr rfl (fun t ht hW => ⟨⟨(1 : Int32), (ff_1, fa_1, mn_1, lg_1, cm_1, wa_1), rfl, (by unfold mX5_isStale; rewrite [← hw_1]; (try dsimp only); rewrite [if_pos c_43_2]; rewrite [if_pos c_77_3]; rewrite [if_neg c_82_4]; rewrite [if_neg c_91_5]; (first | done | rfl)), by rw [ht]; exact hP, va_K.moved hW.alike hK, hD⟩, hS.F ht⟩) hS.2.2 dX5_isStale_99
  · refine lv_aload_n hx hb dX5_isStale_46 rfl (lv_at hl 3 rfl) ?_
    refine lv_aload_n hx hb dX5_isStale_47 rfl (lv_at hl 3 rfl) ?_
    refine va_get (D := (dC, dI)) (ci := 5) (v := .ref (ga 7)) (C := RX5) (T := TX5) (N := 30) hx hb hta inA_X5 hown hK hP 0 rfl rfl 13 (by decide) (hta _ aw_524) (fun _ h9 => h9) rfl dX5_isStale_48 ?_
    refine lv_iload_n hx hb dX5_isStale_51 rfl (lv_at hl 4 rfl) ?_
    refine va_iald hx hb hK hP 7 6 rfl rfl (vp_in_nI (by omega) (by omega)) dX5_isStale_52 ?_
    rw [nI_clamp (show p0 < 2 ^ 31 by omega)]
    refine lv_aload_n hx hb dX5_isStale_53 rfl (lv_at hl 3 rfl) ?_
    refine va_get (D := (dC, dI)) (ci := 5) (v := .ref (ga 5)) (C := RX5) (T := TX5) (N := 30) hx hb hta inA_X5 hown hK hP 0 rfl rfl 11 (by decide) (hta _ aw_522) (fun _ h9 => h9) rfl dX5_isStale_54 ?_
    refine lv_iload_n hx hb dX5_isStale_57 rfl (lv_at hl 4 rfl) ?_
    refine va_iald hx hb hK hP 5 4 rfl rfl (vp_in_nI (by omega) (by omega)) dX5_isStale_58 ?_
    rw [nI_clamp (show p0 < 2 ^ 31 by omega)]
    refine lv_iload_n hx hb dX5_isStale_59 rfl (lv_at hl 2 rfl) ?_
    have hFc : ∀ q, va_A (MWl ga gk th L N mm f1 mr mh f8 en us eC eL eB eF eR eU eX f2 f3 f4 f5 f6 f7 f14 ff_1 fa_1 mn_1 lg_1 cm_1 wa_1) H.size q → A q := cx_free hD hS hA
    refine va_calli (va_runV (As := [.int (eF p0), .int (eL p0), .int ((eB p0) <<< (((8 : Int32) + ((4 : Int32) * (eL p0))) &&& 31))]) (rest := []) ⟨hx, hb, hml, hown, hta⟩ (c_X5_ends l dC dI ga gk th L N mm f1 mr mh f8 en us eC eL eB eF eR eU eX f2 f3 f4 f5 f6 f7 f14 ff_1 fa_1 mn_1 lg_1 cm_1 wa_1 H.size (eF p0) (eL p0) ((eB p0) <<< (((8 : Int32) + ((4 : Int32) * (eL p0))) &&& 31))) (cwV 3 hta (gV aw_670 aw_672 aw_27 aw_43 aw_673) rfl rfl rfl (by decide +kernel) ⟨Nat.le_of_ble_eq_true rfl, Nat.le_of_ble_eq_true rfl⟩) (cx_preVQ hK hP hN (va_recv hK hP (ci := 5) (q0 := 0) rfl rfl) hD) rfl rfl hl.1 rfl (lv_room (Nat.le_of_ble_eq_true rfl)) dX5_isStale_60 ⟨Nat.le_of_ble_eq_true rfl, Nat.le_of_ble_eq_true rfl⟩) hS (fun q _ h => hFc q h) hFc (fun r_7 u t9 H1 locs ht hvm hw_7 hB hz1 hk1 hS => ?_)
    obtain ⟨ff_7, fa_7, cm_7⟩ := u
    obtain ⟨hP, hK1, hD1⟩ := hB
    rw [ht] at hP
    have hD := hD1.weaken (fun _ _ _ h => hFc _ h)
    clear hFc hz1 hk1 hK1 hD1 ht hvm
    generalize H1 = H at hP hS ⊢
    have hP : va_P (dC, dI) vwCl (MWl ga gk th L N mm f1 mr mh f8 en us eC eL eB eF eR eU eX f2 f3 f4 f5 f6 f7 f14 ff_7 fa_7 mn_1 lg_1 cm_7 wa_1) H := hP
    have hD : va_D A (MWl ga gk th L N mm f1 mr mh f8 en us eC eL eB eF eR eU eX f2 f3 f4 f5 f6 f7 f14 ff_7 fa_7 mn_1 lg_1 cm_7 wa_1) := hD
    refine lv_if_eq (tgt := 70) hx hb dX5_isStale_63 (by decide) (fun c_63_7 => ?_) (fun c_63_7 => ?_)
    · refine lv_iconst (v := 0) hx hb dX5_isStale_70 (by decide) ?_
      refine lv_istore (lv' := [(6, .int (0 : Int32)), (5, .int cm_1), (4, .int r_1), (3, .int ((eB p0) <<< (((8 : Int32) + ((4 : Int32) * (eL p0))) &&& 31))), (0, .ref (ga 0)), (1, .int (nI p0)), (2, .int p1)]) hx hb dX5_isStale_71 hl (by decide) rfl (fun ls hl => ?_)
      refine lv_iload hx hb dX5_isStale_73 (lv_at hl 2 rfl) ?_
      refine lv_iload hx hb dX5_isStale_75 (lv_at hl 0 rfl) ?_
      refine lv_icmp_ne (tgt := 94) hx hb dX5_isStale_77 (by decide) (fun c_77_8 => ?_) (fun c_77_8 => ?_)
      · refine lv_iconst (v := 1) hx hb dX5_isStale_94 (by decide) ?_
        refine lv_goto (tgt := 99) hx hb dX5_isStale_95 (by decide) ?_
        exact W.zret (ty := .boolean) (v := (1 : Int32)) hx hb hr rfl (fun t ht hW => ⟨⟨(1 : Int32), (ff_7, fa_7, mn_1, lg_1, cm_7, wa_1), rfl, (by unfold mX5_isStale; rewrite [← hw_1]; (try dsimp only); rewrite [if_neg c_43_2]; rewrite [← hw_7]; (try dsimp only); rewrite [if_pos c_63_7]; rewrite [if_neg c_77_8]; (first | done | rfl)), by rw [ht]; exact hP, va_K.moved hW.alike hK, hD⟩, hS.F ht⟩) hS.2.2 dX5_isStale_99
      · refine lv_iload hx hb dX5_isStale_80 (lv_at hl 2 rfl) ?_
        refine lv_if_eq (tgt := 98) hx hb dX5_isStale_82 (by decide) (fun c_82_9 => ?_) (fun c_82_9 => ?_)
        · refine lv_iconst (v := 0) hx hb dX5_isStale_98 (by decide) ?_
          exact W.zret (ty := .boolean) (v := (0 : Int32)) hx hb hr rfl (fun t ht hW => ⟨⟨(0 : Int32), (ff_7, fa_7, mn_1, lg_1, cm_7, wa_1), rfl, (by unfold mX5_isStale; rewrite [← hw_1]; (try dsimp only); rewrite [if_neg c_43_2]; rewrite [← hw_7]; (try dsimp only); rewrite [if_pos c_63_7]; rewrite [if_pos c_77_8]; rewrite [if_pos c_82_9]; (first | done | rfl)), by rw [ht]; exact hP, va_K.moved hW.alike hK, hD⟩, hS.F ht⟩) hS.2.2 dX5_isStale_99
        · refine lv_iload hx hb dX5_isStale_85 (lv_at hl 1 rfl) ?_
          refine lv_aload_n hx hb dX5_isStale_87 rfl (lv_at hl 4 rfl) ?_
          refine va_get (D := (dC, dI)) (ci := 5) (v := .int cm_7) (C := RX5) (T := TX5) (N := 30) hx hb hta inA_X5 hown hK hP 0 rfl rfl 28 (by decide) (hta _ aw_539) (fun _ h9 => h9) rfl dX5_isStale_88 ?_
          refine lv_icmp_eq (tgt := 98) hx hb dX5_isStale_91 (by decide) (fun c_91_10 => ?_) (fun c_91_10 => ?_)
          · refine lv_iconst (v := 0) hx hb dX5_isStale_98 (by decide) ?_
            exact W.zret (ty := .boolean) (v := (0 : Int32)) hx hb hr rfl (fun t ht hW => ⟨⟨(0 : Int32), (ff_7, fa_7, mn_1, lg_1, cm_7, wa_1), rfl, (by unfold mX5_isStale; rewrite [← hw_1]; (try dsimp only); rewrite [if_neg c_43_2]; rewrite [← hw_7]; (try dsimp only); rewrite [if_pos c_63_7]; rewrite [if_pos c_77_8]; rewrite [if_neg c_82_9]; rewrite [if_pos c_91_10]; (first | done | rfl)), by rw [ht]; exact hP, va_K.moved hW.alike hK, hD⟩, hS.F ht⟩) hS.2.2 dX5_isStale_99
          · refine lv_iconst (v := 1) hx hb dX5_isStale_94 (by decide) ?_
            refine lv_goto (tgt := 99) hx hb dX5_isStale_95 (by decide) ?_
            exact W.zret (ty := .boolean) (v := (1 : Int32)) hx hb hr rfl (fun t ht hW => ⟨⟨(1 : Int32), (ff_7, fa_7, mn_1, lg_1, cm_7, wa_1), rfl, (by unfold mX5_isStale; rewrite [← hw_1]; (try dsimp only); rewrite [if_neg c_43_2]; rewrite [← hw_7]; (try dsimp only); rewrite [if_pos c_63_7]; rewrite [if_pos c_77_8]; rewrite [if_neg c_82_9]; rewrite [if_neg c_91_10]; (first | done | rfl)), by rw [ht]; exact hP, va_K.moved hW.alike hK, hD⟩, hS.F ht⟩) hS.2.2 dX5_isStale_99
    · refine lv_iconst (v := 1) hx hb dX5_isStale_66 (by decide) ?_
      refine lv_goto (tgt := 71) hx hb dX5_isStale_67 (by decide) ?_
      refine lv_istore (lv' := [(6, .int (1 : Int32)), (5, .int cm_1), (4, .int r_1), (3, .int ((eB p0) <<< (((8 : Int32) + ((4 : Int32) * (eL p0))) &&& 31))), (0, .ref (ga 0)), (1, .int (nI p0)), (2, .int p1)]) hx hb dX5_isStale_71 hl (by decide) rfl (fun ls hl => ?_)
      refine lv_iload hx hb dX5_isStale_73 (lv_at hl 2 rfl) ?_
      refine lv_iload hx hb dX5_isStale_75 (lv_at hl 0 rfl) ?_
      refine lv_icmp_ne (tgt := 94) hx hb dX5_isStale_77 (by decide) (fun c_77_11 => ?_) (fun c_77_11 => ?_)
      · refine lv_iconst (v := 1) hx hb dX5_isStale_94 (by decide) ?_
        refine lv_goto (tgt := 99) hx hb dX5_isStale_95 (by decide) ?_
        exact W.zret (ty := .boolean) (v := (1 : Int32)) hx hb hr rfl (fun t ht hW => ⟨⟨(1 : Int32), (ff_7, fa_7, mn_1, lg_1, cm_7, wa_1), rfl, (by unfold mX5_isStale; rewrite [← hw_1]; (try dsimp only); rewrite [if_neg c_43_2]; rewrite [← hw_7]; (try dsimp only); rewrite [if_neg c_63_7]; rewrite [if_neg c_77_11]; (first | done | rfl)), by rw [ht]; exact hP, va_K.moved hW.alike hK, hD⟩, hS.F ht⟩) hS.2.2 dX5_isStale_99
      · refine lv_iload hx hb dX5_isStale_80 (lv_at hl 2 rfl) ?_
        refine lv_if_eq (tgt := 98) hx hb dX5_isStale_82 (by decide) (fun c_82_12 => ?_) (fun c_82_12 => ?_)
        · refine lv_iconst (v := 0) hx hb dX5_isStale_98 (by decide) ?_
          exact W.zret (ty := .boolean) (v := (0 : Int32)) hx hb hr rfl (fun t ht hW => ⟨⟨(0 : Int32), (ff_7, fa_7, mn_1, lg_1, cm_7, wa_1), rfl, (by unfold mX5_isStale; rewrite [← hw_1]; (try dsimp only); rewrite [if_neg c_43_2]; rewrite [← hw_7]; (try dsimp only); rewrite [if_neg c_63_7]; rewrite [if_pos c_77_11]; rewrite [if_pos c_82_12]; (first | done | rfl)), by rw [ht]; exact hP, va_K.moved hW.alike hK, hD⟩, hS.F ht⟩) hS.2.2 dX5_isStale_99
        · refine lv_iload hx hb dX5_isStale_85 (lv_at hl 1 rfl) ?_
          refine lv_aload_n hx hb dX5_isStale_87 rfl (lv_at hl 4 rfl) ?_
          refine va_get (D := (dC, dI)) (ci := 5) (v := .int cm_7) (C := RX5) (T := TX5) (N := 30) hx hb hta inA_X5 hown hK hP 0 rfl rfl 28 (by decide) (hta _ aw_539) (fun _ h9 => h9) rfl dX5_isStale_88 ?_
          refine lv_icmp_eq (tgt := 98) hx hb dX5_isStale_91 (by decide) (fun c_91_13 => ?_) (fun c_91_13 => ?_)
          · refine lv_iconst (v := 0) hx hb dX5_isStale_98 (by decide) ?_
            exact W.zret (ty := .boolean) (v := (0 : Int32)) hx hb hr rfl (fun t ht hW => ⟨⟨(0 : Int32), (ff_7, fa_7, mn_1, lg_1, cm_7, wa_1), rfl, (by unfold mX5_isStale; rewrite [← hw_1]; (try dsimp only); rewrite [if_neg c_43_2]; rewrite [← hw_7]; (try dsimp only); rewrite [if_neg c_63_7]; rewrite [if_pos c_77_11]; rewrite [if_neg c_82_12]; rewrite [if_pos c_91_13]; (first | done | rfl)), by rw [ht]; exact hP, va_K.moved hW.alike hK, hD⟩, hS.F ht⟩) hS.2.2 dX5_isStale_99
          · refine lv_iconst (v := 1) hx hb dX5_isStale_94 (by decide) ?_
            refine lv_goto (tgt := 99) hx hb dX5_isStale_95 (by decide) ?_
            exact W.zret (ty := .boolean) (v := (1 : Int32)) hx hb hr rfl (fun t ht hW => ⟨⟨(1 : Int32), (ff_7, fa_7, mn_1, lg_1, cm_7, wa_1), rfl, (by unfold mX5_isStale; rewrite [← hw_1]; (try dsimp only); rewrite [if_neg c_43_2]; rewrite [← hw_7]; (try dsimp only); rewrite [if_neg c_63_7]; rewrite [if_pos c_77_11]; rewrite [if_neg c_82_12]; rewrite [if_neg c_91_13]; (first | done | rfl)), by rw [ht]; exact hP, va_K.moved hW.alike hK, hD⟩, hS.F ht⟩) hS.2.2 dX5_isStale_99
