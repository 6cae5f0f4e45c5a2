/-- PageRowsModel.kept -/
def mX5_kept (en : Nat) (eC : Nat → Int32) (eL : Nat → Int32) (eB : Nat → Int32) (eF : Nat → Int32) (eR : Nat → Int32) (eU : Nat → Int32) (eX : Nat → Int32) (p0 : Int32) (p1 : Int32) : Int32 × Int32 :=
  if (mX5_isOf p0 (nI en)) = 0 then
    match mX5_throwing (1 : Int32) (0 : Int32) with
    | (r_3, th_3) =>
      ((0 : Int32), (1 : Int32))
  else
    if (mX5_isOf p1 (6 : Int32)) = 0 then
      match mX5_throwing (1 : Int32) (0 : Int32) with
      | (r_13, th_13) =>
        ((0 : Int32), (1 : Int32))
    else
      match mX5_throwing (0 : Int32) (0 : Int32) with
      | (r_7, th_7) =>
        match (mIno eU en p0 en 0) with
        | none =>
          ((0 : Int32), (0 : Int32))
        | some jf_11 =>
          if p1 = 0 then
            (eC jf_11, (0 : Int32))
          else
            if p1 = 1 then
              (eL jf_11, (0 : Int32))
            else
              if p1 = 2 then
                (eB jf_11, (0 : Int32))
              else
                if p1 = 3 then
                  (eF jf_11, (0 : Int32))
                else
                  if p1 = 4 then
                    (eR jf_11, (0 : Int32))
                  else
                    if (eX jf_11) = 0 then
                      ((0 : Int32), (0 : Int32))
                    else
                      ((1 : Int32), (0 : Int32))
set_option maxHeartbeats 4000000 in
set_option maxRecDepth 100000 in
theorem c_X5_kept (l : Launch) (dC : Nat → ClassId) (dI : Nat → Nat → Nat) (ga : Nat → Nat) (gk : Nat → ClassId) (th : Int32) (L : Nat) (N : Nat) (mm : Nat → Int64) (f1 : Int32) (mr : Nat → Int32) (mh : Nat → Int32) (f8 : Int32) (en : Nat) (us : Nat) (eC : Nat → Int32) (eL : Nat → Int32) (eB : Nat → Int32) (eF : Nat → Int32) (eR : Nat → Int32) (eU : Nat → Int32) (eX : Nat → Int32) (f2 : Int32) (f3 : Int32) (f4 : Int32) (f5 : Int32) (f6 : Int32) (f7 : Int32) (f14 : Int32) (ff : Int32) (fa : Int32) (mn : Nat) (lg : Int32) (cm : Int32) (wa : Nat → Int32)  (sz : Nat) (p0 : Int32) (p1 : Int32) (hen : en ≤ N) (hN32 : N ≤ 32) (hio : ¬ mX5_isOf p0 (nI en) = 0 → ∃ i9, mIno eU en p0 en 0 = some i9) : Met l yX5_kept (wX5_kept :: AW) ({ frames := 1, cells := 0, slots := 0, locals := 24 }) (va_Pc [.ref (ga 0), .int p0, .int p1] (CPrQ dC dI (MWl ga gk th L N mm f1 mr mh f8 en us eC eL eB eF eR eU eX f2 f3 f4 f5 f6 f7 f14 ff fa mn lg cm wa) [(gk 0, .long), (gk 1, .int), (gk 2, .int), (gk 3, .int), (gk 4, .int), (gk 5, .int), (gk 6, .int), (gk 7, .int), (gk 8, .int), (gk 9, .boolean), (gk 10, .int)] sz)) (va_Qi (fun (r : Int32) (u : Int32) => (r, u) = mX5_kept en eC eL eB eF eR eU eX p0 p1) (fun (u : Int32) (t : State) => match u with | th' => va_P (dC, dI) vwCl (MWl ga gk th' L N mm f1 mr mh f8 en us eC eL eB eF eR eU eX f2 f3 f4 f5 f6 f7 f14 ff fa mn lg cm wa) t.heap ∧ va_K (dC, dI) vwCl [(gk 0, .long), (gk 1, .int), (gk 2, .int), (gk 3, .int), (gk 4, .int), (gk 5, .int), (gk 6, .int), (gk 7, .int), (gk 8, .int), (gk 9, .boolean), (gk 10, .int)] t ∧ va_D (va_A (MWl ga gk th L N mm f1 mr mh f8 en us eC eL eB eF eR eU eX f2 f3 f4 f5 f6 f7 f14 ff fa mn lg cm wa) sz) (MWl ga gk th' L N mm f1 mr mh f8 en us eC eL eB eF eR eU eX f2 f3 f4 f5 f6 f7 f14 ff fa mn lg cm wa)) (va_A (MWl ga gk th L N mm f1 mr mh f8 en us eC eL eB eF eR eU eX f2 f3 f4 f5 f6 f7 f14 ff fa mn lg cm wa) sz)) 0 0 (va_A (MWl ga gk th L N mm f1 mr mh f8 en us eC eL eB eF eR eU eX f2 f3 f4 f5 f6 f7 f14 ff fa mn lg cm wa) sz) := by
  refine cx_of (cc := cX5_kept) (maxL := 4) (ret := some .int) (by decide) rfl (Nat.le_of_ble_eq_true rfl) ?_
  intro p e s m below meth c ls hx hb hr hts hown hlocks hml hnm hl hB
  have hta : ∀ w ∈ AW, w.before [.ref (ga 0), .int p0, .int p1].toArray s = true := fun w h => hts w (List.mem_cons_of_mem _ h)
  have hl : lv_has ls 4 [(0, .ref (ga 0)), (1, .int p0), (2, .int p1)] := hl
  have hown : s.vm.findClass RX5 = some m.cls := hown
  obtain ⟨rfl, ⟨hP, hK, hN⟩, hD0⟩ := hB
  have hD := hD0.self (sz := s.heap.size)
  generalize hAe : va_A (MWl ga gk th L N mm f1 mr mh f8 en us eC eL eB eF eR eU eX f2 f3 f4 f5 f6 f7 f14 ff fa mn lg cm wa) s.heap.size = A at hD ⊢
  have hA : ∀ q : Nat, s.heap.size ≤ q → A q := fun q h => by rw [← hAe]; exact Or.inr h
  have hS : va_S A s.heap s.heap [] := va_S.rf
  refine lv_aload_n hx hb dX5_kept_0 rfl (lv_at hl 0 rfl) ?_
  refine lv_iload_n hx hb dX5_kept_1 rfl (lv_at hl 1 rfl) ?_
  refine lv_aload_n hx hb dX5_kept_2 rfl (lv_at hl 0 rfl) ?_
  refine va_get (D := (dC, dI)) (ci := 5) (v := .int (nI en)) (C := RX5) (T := TX5) (N := 30) hx hb hta inA_X5 hown hK hP 0 rfl rfl 8 (by decide) (hta _ aw_519) (fun _ h9 => h9) rfl dX5_kept_3 ?_
  refine cx_callSi (va_runS (As := [.int p0, .int (nI en)]) (rest := [.ref (ga 0)]) ⟨hx, hb, hml, hown, hta⟩ (c_X5_isOf l p0 (nI en)) (va_cwS 2 hta (gS aw_611 aw_612 aw_43 aw_613) rfl rfl rfl (by decide +kernel) ⟨Nat.le_of_ble_eq_true rfl, Nat.le_of_ble_eq_true rfl⟩) cx_pre0 rfl rfl hl.1 rfl (lv_room (Nat.le_of_ble_eq_true rfl)) dX5_kept_6 ⟨Nat.le_of_ble_eq_true rfl, Nat.le_of_ble_eq_true rfl⟩) (fun r hw_1 => ?_)
  subst hw_1
  refine lv_if_eq (tgt := 21) hx hb dX5_kept_9 (by decide) (fun c_9_1 => ?_) (fun c_9_1 => ?_)
  · refine lv_iconst (v := 1) hx hb dX5_kept_21 (by decide) ?_
    refine lv_goto (tgt := 26) hx hb dX5_kept_22 (by decide) ?_
    refine lv_iconst (v := 0) hx hb dX5_kept_26 (by decide) ?_
    have hFc : ∀ q, va_A (MWl ga gk th L N mm f1 mr mh f8 en us eC eL eB eF eR eU eX f2 f3 f4 f5 f6 f7 f14 ff fa mn lg cm wa) s.heap.size q → A q := cx_free hD hS hA
    refine va_calli (va_runV (As := [.int (1 : Int32), .int (0 : Int32)]) (rest := []) ⟨hx, hb, hml, hown, hta⟩ (c_X5_throwing l dC dI ga gk th L N mm f1 mr mh f8 en us eC eL eB eF eR eU eX f2 f3 f4 f5 f6 f7 f14 ff fa mn lg cm wa s.heap.size (1 : Int32) (0 : Int32)) (cwV 2 hta (gV aw_614 aw_616 aw_20 aw_43 aw_617) rfl rfl rfl (by decide +kernel) ⟨Nat.le_of_ble_eq_true rfl, Nat.le_of_ble_eq_true rfl⟩) (cx_preVQ hK hP hN (va_recv hK hP (ci := 5) (q0 := 0) rfl rfl) hD) rfl rfl hl.1 rfl (lv_room (Nat.le_of_ble_eq_true rfl)) dX5_kept_27 ⟨Nat.le_of_ble_eq_true rfl, Nat.le_of_ble_eq_true rfl⟩) hS (fun q _ h => hFc q h) hFc (fun r_3 u t9 H1 locs ht hvm hw_3 hB hz1 hk1 hS => ?_)
    obtain ⟨th_3, rfl⟩ : ∃ z, z = u := ⟨_, rfl⟩
    obtain ⟨hP, hK1, hD1⟩ := hB
    rw [ht] at hP
    have hD := hD1.weaken (fun _ _ _ h => hFc _ h)
    clear hFc hz1 hk1 hK1 hD1 ht hvm
    generalize H1 = H at hP hS ⊢
    have hP : va_P (dC, dI) vwCl (MWl ga gk th_3 L N mm f1 mr mh f8 en us eC eL eB eF eR eU eX f2 f3 f4 f5 f6 f7 f14 ff fa mn lg cm wa) H := hP
    have hD : va_D A (MWl ga gk th_3 L N mm f1 mr mh f8 en us eC eL eB eF eR eU eX f2 f3 f4 f5 f6 f7 f14 ff fa mn lg cm wa) := hD
    obtain ⟨rfl, rfl⟩ : r_3 = (1 : Int32) ∧ th_3 = (1 : Int32) := by
      have h9 := hw_3
      unfold mX5_throwing at h9
      cases h9
      exact ⟨rfl, rfl⟩
    refine lv_if_eq (tgt := 35) hx hb dX5_kept_30 (by decide) (fun c_30_3 => ?_) (fun c_30_3 => ?_)
    · exact absurd c_30_3 (by decide)
    · refine lv_iconst (v := 0) hx hb dX5_kept_33 (by decide) ?_
      exact W.iret (v := (0 : Int32)) hx hb hr (fun t ht hW => ⟨⟨(0 : Int32), (1 : Int32), rfl, (by unfold mX5_kept; rewrite [if_pos c_9_1]; rewrite [← hw_3]; (try dsimp only); (first | done | rfl)), by rw [ht]; exact hP, va_K.moved hW.alike hK, hD⟩, hS.F ht⟩) hS.2.2 dX5_kept_34
  · refine lv_iload_n hx hb dX5_kept_12 rfl (lv_at hl 2 rfl) ?_
    refine lv_bipush (v := 6) hx hb dX5_kept_13 (by decide) ?_
    refine cx_callSi (va_runS (As := [.int p1, .int (6 : Int32)]) (rest := [.ref (ga 0)]) ⟨hx, hb, hml, hown, hta⟩ (c_X5_isOf l p1 (6 : Int32)) (va_cwS 2 hta (gS aw_611 aw_612 aw_43 aw_613) rfl rfl rfl (by decide +kernel) ⟨Nat.le_of_ble_eq_true rfl, Nat.le_of_ble_eq_true rfl⟩) cx_pre0 rfl rfl hl.1 rfl (lv_room (Nat.le_of_ble_eq_true rfl)) dX5_kept_15 ⟨Nat.le_of_ble_eq_true rfl, Nat.le_of_ble_eq_true rfl⟩) (fun r hw_5 => ?_)
    subst hw_5
    refine lv_if_ne (tgt := 25) hx hb dX5_kept_18 (by decide) (fun c_18_5 => ?_) (fun c_18_5 => ?_)
    · refine lv_iconst (v := 0) hx hb dX5_kept_25 (by decide) ?_
      refine lv_iconst (v := 0) hx hb dX5_kept_26 (by decide) ?_
      have hFc : ∀ q, va_A (MWl ga gk th L N mm f1 mr mh f8 en us eC eL eB eF eR eU eX f2 f3 f4 f5 f6 f7 f14 ff fa mn lg cm wa) s.heap.size q → A q := cx_free hD hS hA
      refine va_calli (va_runV (As := [.int (0 : Int32), .int (0 : Int32)]) (rest := []) ⟨hx, hb, hml, hown, hta⟩ (c_X5_throwing l dC dI ga gk th L N mm f1 mr mh f8 en us eC eL eB eF eR eU eX f2 f3 f4 f5 f6 f7 f14 ff fa mn lg cm wa s.heap.size (0 : Int32) (0 : Int32)) (cwV 2 hta (gV aw_614 aw_616 aw_20 aw_43 aw_617) rfl rfl rfl (by decide +kernel) ⟨Nat.le_of_ble_eq_true rfl, Nat.le_of_ble_eq_true rfl⟩) (cx_preVQ hK hP hN (va_recv hK hP (ci := 5) (q0 := 0) rfl rfl) hD) rfl rfl hl.1 rfl (lv_room (Nat.le_of_ble_eq_true rfl)) dX5_kept_27 ⟨Nat.le_of_ble_eq_true rfl, Nat.le_of_ble_eq_true rfl⟩) hS (fun q _ h => hFc q h) hFc (fun r_7 u t9 H1 locs ht hvm hw_7 hB hz1 hk1 hS => ?_)
      obtain ⟨th_7, rfl⟩ : ∃ z, z = u := ⟨_, rfl⟩
      obtain ⟨hP, hK1, hD1⟩ := hB
      rw [ht] at hP
      have hD := hD1.weaken (fun _ _ _ h => hFc _ h)
      clear hFc hz1 hk1 hK1 hD1 ht hvm
      generalize H1 = H at hP hS ⊢
      have hP : va_P (dC, dI) vwCl (MWl ga gk th_7 L N mm f1 mr mh f8 en us eC eL eB eF eR eU eX f2 f3 f4 f5 f6 f7 f14 ff fa mn lg cm wa) H := hP
      have hD : va_D A (MWl ga gk th_7 L N mm f1 mr mh f8 en us eC eL eB eF eR eU eX f2 f3 f4 f5 f6 f7 f14 ff fa mn lg cm wa) := hD
      obtain ⟨rfl, rfl⟩ : r_7 = (0 : Int32) ∧ th_7 = (0 : Int32) := by
        have h9 := hw_7
        unfold mX5_throwing at h9
        cases h9
        exact ⟨rfl, rfl⟩
      refine lv_if_eq (tgt := 35) hx hb dX5_kept_30 (by decide) (fun c_30_7 => ?_) (fun c_30_7 => ?_)
      · refine lv_aload_n hx hb dX5_kept_35 rfl (lv_at hl 0 rfl) ?_
        refine lv_iload_n hx hb dX5_kept_36 rfl (lv_at hl 1 rfl) ?_
        refine cx_callSi (va_runV (As := [.int p0]) (rest := []) ⟨hx, hb, hml, hown, hta⟩ (c_X5_inOrder l dC dI ga gk (0 : Int32) L N mm f1 mr mh f8 en us eC eL eB eF eR eU eX f2 f3 f4 f5 f6 f7 f14 ff fa mn lg cm wa p0 hen hN32) (cwV 1 hta (gV aw_735 aw_737 aw_35 aw_43 aw_738) rfl rfl rfl (by decide +kernel) ⟨Nat.le_of_ble_eq_true rfl, Nat.le_of_ble_eq_true rfl⟩) (cx_preVS hK hP hN (va_recv hK hP (ci := 5) (q0 := 0) rfl rfl)) rfl rfl hl.1 rfl (lv_room (Nat.le_of_ble_eq_true rfl)) dX5_kept_37 ⟨Nat.le_of_ble_eq_true rfl, Nat.le_of_ble_eq_true rfl⟩) (fun r hw_9 => ?_)
        subst hw_9
        rcases hfo_10 : (mIno eU en p0 en 0) with _ | jf_11
        · obtain ⟨i9, hi9⟩ := hio c_9_1
          rw [hi9] at hfo_10
          cases hfo_10
        · dsimp only [optI]
          have hlt_jf_11 : jf_11 < en := by have := mIno_lt _ _ _ _ _ _ hfo_10; omega
          refine lv_istore_n (lv' := [(3, .int (nI jf_11)), (0, .ref (ga 0)), (1, .int p0), (2, .int p1)]) hx hb dX5_kept_40 rfl hl (by decide) rfl (fun ls hl => ?_)
          refine lv_iload_n hx hb dX5_kept_41 rfl (lv_at hl 3 rfl) ?_
          by_cases c_sw_0 : p1 = 0
          · refine lv_tableIn (tgt := 76) hx hb dX5_kept_42 (by rw [c_sw_0]; decide) (by rw [c_sw_0]; decide) (by rw [c_sw_0]; rfl) (by decide) ?_
            refine lv_aload_n hx hb dX5_kept_76 rfl (lv_at hl 1 rfl) ?_
            refine va_get (D := (dC, dI)) (ci := 5) (v := .ref (ga 4)) (C := RX5) (T := TX5) (N := 30) hx hb hta inA_X5 hown hK hP 0 rfl rfl 10 (by decide) (hta _ aw_521) (fun _ h9 => h9) rfl dX5_kept_77 ?_
            refine lv_iload_n hx hb dX5_kept_80 rfl (lv_at hl 0 rfl) ?_
            refine va_iald hx hb hK hP 4 3 rfl rfl (vp_in_nI (by omega) (by omega)) dX5_kept_81 ?_
            rw [nI_clamp (show jf_11 < 2 ^ 31 by omega)]
            exact W.iret (v := eC jf_11) hx hb hr (fun t ht hW => ⟨⟨eC jf_11, (0 : Int32), rfl, (by unfold mX5_kept; rewrite [if_neg c_9_1]; rewrite [if_neg c_18_5]; rewrite [← hw_7]; (try dsimp only); rewrite [hfo_10]; (try dsimp only); rewrite [if_pos c_sw_0]; (first | done | rfl)), by rw [ht]; exact hP, va_K.moved hW.alike hK, hD⟩, hS.F ht⟩) hS.2.2 dX5_kept_82
          · by_cases c_sw_1 : p1 = 1
            · refine lv_tableIn (tgt := 83) hx hb dX5_kept_42 (by rw [c_sw_1]; decide) (by rw [c_sw_1]; decide) (by rw [c_sw_1]; rfl) (by decide) ?_
              refine lv_aload_n hx hb dX5_kept_83 rfl (lv_at hl 1 rfl) ?_
              refine va_get (D := (dC, dI)) (ci := 5) (v := .ref (ga 5)) (C := RX5) (T := TX5) (N := 30) hx hb hta inA_X5 hown hK hP 0 rfl rfl 11 (by decide) (hta _ aw_522) (fun _ h9 => h9) rfl dX5_kept_84 ?_
              refine lv_iload_n hx hb dX5_kept_87 rfl (lv_at hl 0 rfl) ?_
              refine va_iald hx hb hK hP 5 4 rfl rfl (vp_in_nI (by omega) (by omega)) dX5_kept_88 ?_
              rw [nI_clamp (show jf_11 < 2 ^ 31 by omega)]
              exact W.iret (v := eL jf_11) hx hb hr (fun t ht hW => ⟨⟨eL jf_11, (0 : Int32), rfl, (by unfold mX5_kept; rewrite [if_neg c_9_1]; rewrite [if_neg c_18_5]; rewrite [← hw_7]; (try dsimp only); rewrite [hfo_10]; (try dsimp only); rewrite [if_neg c_sw_0]; rewrite [if_pos c_sw_1]; (first | done | rfl)), by rw [ht]; exact hP, va_K.moved hW.alike hK, hD⟩, hS.F ht⟩) hS.2.2 dX5_kept_89
            · by_cases c_sw_2 : p1 = 2
              · refine lv_tableIn (tgt := 90) hx hb dX5_kept_42 (by rw [c_sw_2]; decide) (by rw [c_sw_2]; decide) (by rw [c_sw_2]; rfl) (by decide) ?_
                refine lv_aload_n hx hb dX5_kept_90 rfl (lv_at hl 1 rfl) ?_
                refine va_get (D := (dC, dI)) (ci := 5) (v := .ref (ga 6)) (C := RX5) (T := TX5) (N := 30) hx hb hta inA_X5 hown hK hP 0 rfl rfl 12 (by decide) (hta _ aw_523) (fun _ h9 => h9) rfl dX5_kept_91 ?_
                refine lv_iload_n hx hb dX5_kept_94 rfl (lv_at hl 0 rfl) ?_
                refine va_iald hx hb hK hP 6 5 rfl rfl (vp_in_nI (by omega) (by omega)) dX5_kept_95 ?_
                rw [nI_clamp (show jf_11 < 2 ^ 31 by omega)]
                exact W.iret (v := eB jf_11) hx hb hr (fun t ht hW => ⟨⟨eB jf_11, (0 : Int32), rfl, (by unfold mX5_kept; rewrite [if_neg c_9_1]; rewrite [if_neg c_18_5]; rewrite [← hw_7]; (try dsimp only); rewrite [hfo_10]; (try dsimp only); rewrite [if_neg c_sw_0]; rewrite [if_neg c_sw_1]; rewrite [if_pos c_sw_2]; (first | done | rfl)), by rw [ht]; exact hP, va_K.moved hW.alike hK, hD⟩, hS.F ht⟩) hS.2.2 dX5_kept_96
              · by_cases c_sw_3 : p1 = 3
                · refine lv_tableIn (tgt := 97) hx hb dX5_kept_42 (by rw [c_sw_3]; decide) (by rw [c_sw_3]; decide) (by rw [c_sw_3]; rfl) (by decide) ?_
                  refine lv_aload_n hx hb dX5_kept_97 rfl (lv_at hl 1 rfl) ?_
                  refine va_get (D := (dC, dI)) (ci := 5) (v := .ref (ga 7)) (C := RX5) (T := TX5) (N := 30) hx hb hta inA_X5 hown hK hP 0 rfl rfl 13 (by decide) (hta _ aw_524) (fun _ h9 => h9) rfl dX5_kept_98 ?_
                  refine lv_iload_n hx hb dX5_kept_101 rfl (lv_at hl 0 rfl) ?_
                  refine va_iald hx hb hK hP 7 6 rfl rfl (vp_in_nI (by omega) (by omega)) dX5_kept_102 ?_
                  rw [nI_clamp (show jf_11 < 2 ^ 31 by omega)]
                  exact W.iret (v := eF jf_11) hx hb hr (fun t ht hW => ⟨⟨eF jf_11, (0 : Int32), rfl, (by unfold mX5_kept; rewrite [if_neg c_9_1]; rewrite [if_neg c_18_5]; rewrite [← hw_7]; (try dsimp only); rewrite [hfo_10]; (try dsimp only); rewrite [if_neg c_sw_0]; rewrite [if_neg c_sw_1]; rewrite [if_neg c_sw_2]; rewrite [if_pos c_sw_3]; (first | done | rfl)), by rw [ht]; exact hP, va_K.moved hW.alike hK, hD⟩, hS.F ht⟩) hS.2.2 dX5_kept_103
                · by_cases c_sw_4 : p1 = 4
                  · refine lv_tableIn (tgt := 104) hx hb dX5_kept_42 (by rw [c_sw_4]; decide) (by rw [c_sw_4]; decide) (by rw [c_sw_4]; rfl) (by decide) ?_
                    refine lv_aload_n hx hb dX5_kept_104 rfl (lv_at hl 1 rfl) ?_
                    refine va_get (D := (dC, dI)) (ci := 5) (v := .ref (ga 8)) (C := RX5) (T := TX5) (N := 30) hx hb hta inA_X5 hown hK hP 0 rfl rfl 14 (by decide) (hta _ aw_525) (fun _ h9 => h9) rfl dX5_kept_105 ?_
                    refine lv_iload_n hx hb dX5_kept_108 rfl (lv_at hl 0 rfl) ?_
                    refine va_iald hx hb hK hP 8 7 rfl rfl (vp_in_nI (by omega) (by omega)) dX5_kept_109 ?_
                    rw [nI_clamp (show jf_11 < 2 ^ 31 by omega)]
                    exact W.iret (v := eR jf_11) hx hb hr (fun t ht hW => ⟨⟨eR jf_11, (0 : Int32), rfl, (by unfold mX5_kept; rewrite [if_neg c_9_1]; rewrite [if_neg c_18_5]; rewrite [← hw_7]; (try dsimp only); rewrite [hfo_10]; (try dsimp only); rewrite [if_neg c_sw_0]; rewrite [if_neg c_sw_1]; rewrite [if_neg c_sw_2]; rewrite [if_neg c_sw_3]; rewrite [if_pos c_sw_4]; (first | done | rfl)), by rw [ht]; exact hP, va_K.moved hW.alike hK, hD⟩, hS.F ht⟩) hS.2.2 dX5_kept_110
                  · refine lv_tableOut (tgt := 111) hx hb dX5_kept_42 (cx_swout (x := p1) 4 (by decide) (fun j hj => match j, hj with | 0, _ => c_sw_0 | 1, _ => c_sw_1 | 2, _ => c_sw_2 | 3, _ => c_sw_3 | 4, _ => c_sw_4 | q + 5, h => absurd h (by omega))) (by decide) ?_
                    refine lv_aload_n hx hb dX5_kept_111 rfl (lv_at hl 1 rfl) ?_
                    refine va_get (D := (dC, dI)) (ci := 5) (v := .ref (ga 10)) (C := RX5) (T := TX5) (N := 30) hx hb hta inA_X5 hown hK hP 0 rfl rfl 16 (by decide) (hta _ aw_527) (fun _ h9 => h9) rfl dX5_kept_112 ?_
                    refine lv_iload_n hx hb dX5_kept_115 rfl (lv_at hl 0 rfl) ?_
                    refine va_zald hx hb hK hP 10 9 rfl rfl (vp_in_nI (by omega) (by omega)) dX5_kept_116 ?_
                    rw [nI_clamp (show jf_11 < 2 ^ 31 by omega)]
                    refine lv_if_eq (tgt := 124) hx hb dX5_kept_117 (by decide) (fun c_117_11 => ?_) (fun c_117_11 => ?_)
                    · refine lv_iconst (v := 0) hx hb dX5_kept_124 (by decide) ?_
                      exact W.iret (v := (0 : Int32)) hx hb hr (fun t ht hW => ⟨⟨(0 : Int32), (0 : Int32), rfl, (by unfold mX5_kept; rewrite [if_neg c_9_1]; rewrite [if_neg c_18_5]; rewrite [← hw_7]; (try dsimp only); rewrite [hfo_10]; (try dsimp only); rewrite [if_neg c_sw_0]; rewrite [if_neg c_sw_1]; rewrite [if_neg c_sw_2]; rewrite [if_neg c_sw_3]; rewrite [if_neg c_sw_4]; rewrite [if_pos c_117_11]; (first | done | rfl)), by rw [ht]; exact hP, va_K.moved hW.alike hK, hD⟩, hS.F ht⟩) hS.2.2 dX5_kept_125
                    · refine lv_iconst (v := 1) hx hb dX5_kept_120 (by decide) ?_
                      refine lv_goto (tgt := 125) hx hb dX5_kept_121 (by decide) ?_
                      exact W.iret (v := (1 : Int32)) hx hb hr (fun t ht hW => ⟨⟨(1 : Int32), (0 : Int32), rfl, (by unfold mX5_kept; rewrite [if_neg c_9_1]; rewrite [if_neg c_18_5]; rewrite [← hw_7]; (try dsimp only); rewrite [hfo_10]; (try dsimp only); rewrite [if_neg c_sw_0]; rewrite [if_neg c_sw_1]; rewrite [if_neg c_sw_2]; rewrite [if_neg c_sw_3]; rewrite [if_neg c_sw_4]; rewrite [if_neg c_117_11]; (first | done | rfl)), by rw [ht]; exact hP, va_K.moved hW.alike hK, hD⟩, hS.F ht⟩) hS.2.2 dX5_kept_125
      · exact absurd (by decide) c_30_7
    · refine lv_iconst (v := 1) hx hb dX5_kept_21 (by decide) ?_
      refine lv_goto (tgt := 26) hx hb dX5_kept_22 (by decide) ?_
      refine lv_iconst (v := 0) hx hb dX5_kept_26 (by decide) ?_
      have hFc : ∀ q, va_A (MWl ga gk th L N mm f1 mr mh f8 en us eC eL eB eF eR eU eX f2 f3 f4 f5 f6 f7 f14 ff fa mn lg cm wa) s.heap.size q → A q := cx_free hD hS hA
      refine va_calli (va_runV (As := [.int (1 : Int32), .int (0 : Int32)]) (rest := []) ⟨hx, hb, hml, hown, hta⟩ (c_X5_throwing l dC dI ga gk th L N mm f1 mr mh f8 en us eC eL eB eF eR eU eX f2 f3 f4 f5 f6 f7 f14 ff fa mn lg cm wa s.heap.size (1 : Int32) (0 : Int32)) (cwV 2 hta (gV aw_614 aw_616 aw_20 aw_43 aw_617) rfl rfl rfl (by decide +kernel) ⟨Nat.le_of_ble_eq_true rfl, Nat.le_of_ble_eq_true rfl⟩) (cx_preVQ hK hP hN (va_recv hK hP (ci := 5) (q0 := 0) rfl rfl) hD) rfl rfl hl.1 rfl (lv_room (Nat.le_of_ble_eq_true rfl)) dX5_kept_27 ⟨Nat.le_of_ble_eq_true rfl, Nat.le_of_ble_eq_true rfl⟩) hS (fun q _ h => hFc q h) hFc (fun r_13 u t9 H1 locs ht hvm hw_13 hB hz1 hk1 hS => ?_)
      obtain ⟨th_13, rfl⟩ : ∃ z, z = u := ⟨_, rfl⟩
      obtain ⟨hP, hK1, hD1⟩ := hB
      rw [ht] at hP
      have hD := hD1.weaken (fun _ _ _ h => hFc _ h)
      clear hFc hz1 hk1 hK1 hD1 ht hvm
      generalize H1 = H at hP hS ⊢
      have hP : va_P (dC, dI) vwCl (MWl ga gk th_13 L N mm f1 mr mh f8 en us eC eL eB eF eR eU eX f2 f3 f4 f5 f6 f7 f14 ff fa mn lg cm wa) H := hP
      have hD : va_D A (MWl ga gk th_13 L N mm f1 mr mh f8 en us eC eL eB eF eR eU eX f2 f3 f4 f5 f6 f7 f14 ff fa mn lg cm wa) := hD
      obtain ⟨rfl, rfl⟩ : r_13 = (1 : Int32) ∧ th_13 = (1 : Int32) := by
        have h9 := hw_13
        unfold mX5_throwing at h9
        cases h9
        exact ⟨rfl, rfl⟩
      refine lv_if_eq (tgt := 35) hx hb dX5_kept_30 (by decide) (fun c_30_13 => ?_) (fun c_30_13 => ?_)
      · exact absurd c_30_13 (by decide)
      · refine lv_iconst (v := 0) hx hb dX5_kept_33 (by decide) ?_
        exact W.iret (v := (0 : Int32)) hx hb hr (fun t ht hW => ⟨⟨(0 : Int32), (1 : Int32), rfl, (by unfold mX5_kept; rewrite [if_neg c_9_1]; rewrite [if_pos c_18_5]; rewrite [← hw_13]; (try dsimp only); (first | done | rfl)), by rw [ht]; exact hP, va_K.moved hW.alike hK, hD⟩, hS.F ht⟩) hS.2.2 dX5_kept_34
/-- PageRowsModel.stale: at entry i, j left, t found -/
def mStM (L : Nat) (mm : Nat → Int64) (f1 : Int32) (mr mh : Nat → Int32) (f8 : Int32) (eC eL eB eF eR : Nat → Int32) (p0 : Int32) : Nat → Nat → Nat → Int32 → Int32 → Nat → Int32 → Int32 → (Nat → Int32) → Nat × Int32 × Int32 × Nat × Int32 × Int32 × (Nat → Int32)
  | 0, _, t, ff, fa, mn, lg, cm, wa => (t, ff, fa, mn, lg, cm, wa)
  | j + 1, i, t, ff, fa, mn, lg, cm, wa => if eC i = f1 then
      (match mX5_isStale L mm f1 mr mh f8 eL eB eF eR fa lg cm wa i p0 with
      | (r, ff', fa', mn', lg', cm', wa') => if r = 0 then mStM L mm f1 mr mh f8 eC eL eB eF eR p0 j (i + 1) t ff' fa' mn' lg' cm' wa' else mStM L mm f1 mr mh f8 eC eL eB eF eR p0 j (i + 1) (t + 1) ff' fa' mn' lg' cm' wa')
    else mStM L mm f1 mr mh f8 eC eL eB eF eR p0 j (i + 1) t ff fa mn lg cm wa
def mSt (p0 : Int32) (x0 x : Nat × Int32 × Int32 × Nat × Int32 × Int32 × (Nat → Int32)) : Int32 × Int32 × Int32 × Int32 × Nat × Int32 × Int32 × (Nat → Int32) :=
  if mX5_isOf p0 (6 : Int32) = 0 then ((0 : Int32), (1 : Int32), x0.2) else (nI x.1, (0 : Int32), x.2)

set_option maxHeartbeats 4000000 in
set_option maxRecDepth 100000 in
theorem c_X5_stale (l : Launch) (dC : Nat → ClassId) (dI : Nat → Nat → Nat) (ga : Nat → Nat) (gk : Nat → ClassId) (th : Int32) (L : Nat) (N : Nat) (mm : Nat → Int64) (f1 : Int32) (mr : Nat → Int32) (mh : Nat → Int32) (f8 : Int32) (en : Nat) (us : Nat) (eC : Nat → Int32) (eL : Nat → Int32) (eB : Nat → Int32) (eF : Nat → Int32) (eR : Nat → Int32) (eU : Nat → Int32) (eX : Nat → Int32) (f2 : Int32) (f3 : Int32) (f4 : Int32) (f5 : Int32) (f6 : Int32) (f7 : Int32) (f14 : Int32) (ff : Int32) (fa : Int32) (mn : Nat) (lg : Int32) (cm : Int32) (wa : Nat → Int32)  (sz : Nat) (p0 : Int32) (hL1 : 1 ≤ L) (hL4 : L ≤ 4) (hf1 : vp_in f1 4) (hen : en ≤ N) (hN32 : N ≤ 32) : Met l yX5_stale (wX5_stale :: AW) ({ frames := 5, cells := 0, slots := 0, locals := 122 }) (va_Pc [.ref (ga 0), .int p0] (CPrQ dC dI (MWl ga gk th L N mm f1 mr mh f8 en us eC eL eB eF eR eU eX f2 f3 f4 f5 f6 f7 f14 ff fa mn lg cm wa) [(gk 0, .long), (gk 1, .int), (gk 2, .int), (gk 3, .int), (gk 4, .int), (gk 5, .int), (gk 6, .int), (gk 7, .int), (gk 8, .int), (gk 9, .boolean), (gk 10, .int)] sz)) (va_Qi (fun (r : Int32) (u : Int32 × Int32 × Int32 × Nat × Int32 × Int32 × (Nat → Int32)) => (r, u) = mSt p0 (0, ff, fa, mn, lg, cm, wa) (mStM L mm f1 mr mh f8 eC eL eB eF eR p0 en 0 0 ff fa mn lg cm wa)) (fun (u : Int32 × Int32 × Int32 × Nat × Int32 × Int32 × (Nat → Int32)) (t : State) => match u with | (th', ff', fa', mn', lg', cm', wa') => va_P (dC, dI) vwCl (MWl ga gk th' L N mm f1 mr mh f8 en us eC eL eB eF eR eU eX f2 f3 f4 f5 f6 f7 f14 ff' fa' mn' lg' cm' wa') t.heap ∧ va_K (dC, dI) vwCl [(gk 0, .long), (gk 1, .int), (gk 2, .int), (gk 3, .int), (gk 4, .int), (gk 5, .int), (gk 6, .int), (gk 7, .int), (gk 8, .int), (gk 9, .boolean), (gk 10, .int)] t ∧ va_D (va_A (MWl ga gk th L N mm f1 mr mh f8 en us eC eL eB eF eR eU eX f2 f3 f4 f5 f6 f7 f14 ff fa mn lg cm wa) sz) (MWl ga gk th' L N mm f1 mr mh f8 en us eC eL eB eF eR eU eX f2 f3 f4 f5 f6 f7 f14 ff' fa' mn' lg' cm' wa')) (va_A (MWl ga gk th L N mm f1 mr mh f8 en us eC eL eB eF eR eU eX f2 f3 f4 f5 f6 f7 f14 ff fa mn lg cm wa) sz)) 0 0 (va_A (MWl ga gk th L N mm f1 mr mh f8 en us eC eL eB eF eR eU eX f2 f3 f4 f5 f6 f7 f14 ff fa mn lg cm wa) sz) := by
  refine cx_of (cc := cX5_stale) (maxL := 4) (ret := some .int) (by decide) rfl (Nat.le_of_ble_eq_true rfl) ?_
  intro p e s m below meth c ls hx hb hr hts hown hlocks hml hnm hl hB
  have hta : ∀ w ∈ AW, w.before [.ref (ga 0), .int p0].toArray s = true := fun w h => hts w (List.mem_cons_of_mem _ h)
  have hl : lv_has ls 4 [(0, .ref (ga 0)), (1, .int p0)] := hl
  have hown : s.vm.findClass RX5 = some m.cls := hown
  obtain ⟨rfl, ⟨hP, hK, hN⟩, hD0⟩ := hB
  have hD := hD0.self (sz := s.heap.size)
  generalize hAe : va_A (MWl ga gk th L N mm f1 mr mh f8 en us eC eL eB eF eR eU eX f2 f3 f4 f5 f6 f7 f14 ff fa mn lg cm wa) s.heap.size = A at hD ⊢
  have hA : ∀ q : Nat, s.heap.size ≤ q → A q := fun q h => by rw [← hAe]; exact Or.inr h
  have hS : va_S A s.heap s.heap [] := va_S.rf
  have loop : ¬ mX5_isOf p0 (6 : Int32) = 0 → ∀ (j i t : Nat) (ff1 fa1 : Int32) (mn1 : Nat) (lg1 cm1 : Int32) (wa1 : Nat → Int32), i + j = en → t ≤ i → mStM L mm f1 mr mh f8 eC eL eB eF eR p0 en 0 0 ff fa mn lg cm wa = mStM L mm f1 mr mh f8 eC eL eB eF eR p0 j i t ff1 fa1 mn1 lg1 cm1 wa1 → ∀ (H : Heap) (locs : List Loc), va_P (dC, dI) vwCl (MWl ga gk (0 : Int32) L N mm f1 mr mh f8 en us eC eL eB eF eR eU eX f2 f3 f4 f5 f6 f7 f14 ff1 fa1 mn1 lg1 cm1 wa1) H → va_D A (MWl ga gk (0 : Int32) L N mm f1 mr mh f8 en us eC eL eB eF eR eU eX f2 f3 f4 f5 f6 f7 f14 ff1 fa1 mn1 lg1 cm1 wa1) → va_S A s.heap H locs → ∀ (ls : Array Slot), lv_has ls 4 [(3, .int (nI i)), (2, .int (nI t)), (0, .ref (ga 0)), (1, .int p0)] → W p l e ({ frames := 5, cells := 0, slots := 0, locals := 122 }) s m [.ref (ga 0), .int p0].toArray below meth c H locs 0 0 (MQ below (va_Qi (fun (r : Int32) (u : Int32 × Int32 × Int32 × Nat × Int32 × Int32 × (Nat → Int32)) => (r, u) = mSt p0 (0, ff, fa, mn, lg, cm, wa) (mStM L mm f1 mr mh f8 eC eL eB eF eR p0 en 0 0 ff fa mn lg cm wa)) (fun (u : Int32 × Int32 × Int32 × Nat × Int32 × Int32 × (Nat → Int32)) (t : State) => match u with | (th', ff', fa', mn', lg', cm', wa') => va_P (dC, dI) vwCl (MWl ga gk th' L N mm f1 mr mh f8 en us eC eL eB eF eR eU eX f2 f3 f4 f5 f6 f7 f14 ff' fa' mn' lg' cm' wa') t.heap ∧ va_K (dC, dI) vwCl [(gk 0, .long), (gk 1, .int), (gk 2, .int), (gk 3, .int), (gk 4, .int), (gk 5, .int), (gk 6, .int), (gk 7, .int), (gk 8, .int), (gk 9, .boolean), (gk 10, .int)] t ∧ va_D A (MWl ga gk th' L N mm f1 mr mh f8 en us eC eL eB eF eR eU eX f2 f3 f4 f5 f6 f7 f14 ff' fa' mn' lg' cm' wa')) A) [.ref (ga 0), .int p0].toArray s 0 0 A) (F0 m 28 ls []) := by
    intro hkd j
    induction j with
    | zero =>
      intro i t ff1 fa1 mn1 lg1 cm1 wa1 hi hti hm H locs hP hD hS ls hl
      refine lv_iload_n hx hb dX5_stale_28 rfl (lv_at hl 0 rfl) ?_
      refine lv_aload_n hx hb dX5_stale_29 rfl (lv_at hl 2 rfl) ?_
      refine va_get (D := (dC, dI)) (ci := 5) (v := .int (nI en)) (C := RX5) (T := TX5) (N := 30) hx hb hta inA_X5 hown hK hP 0 rfl rfl 8 (by decide) (hta _ aw_519) (fun _ h9 => h9) rfl dX5_stale_30 ?_
      refine lv_icmp_ge (tgt := 72) hx hb dX5_stale_33 (by decide) (fun c_33_6 => ?_) (fun c_33_6 => ?_)
      · refine lv_iload_n hx hb dX5_stale_72 rfl (lv_at hl 1 rfl) ?_
        exact W.iret (v := nI t) hx hb hr (fun t9 ht hW => ⟨⟨nI t, ((0 : Int32), ff1, fa1, mn1, lg1, cm1, wa1), rfl, (by unfold mSt; rw [if_neg hkd, hm]; rfl), by rw [ht]; exact hP, va_K.moved hW.alike hK, hD⟩, hS.F ht⟩) hS.2.2 dX5_stale_73
      · exact absurd (nI_le (by omega) (by omega)) c_33_6
    | succ j ih =>
      intro i t ff1 fa1 mn1 lg1 cm1 wa1 hi hti hm H locs hP hD hS ls hl
      refine lv_iload_n hx hb dX5_stale_28 rfl (lv_at hl 0 rfl) ?_
      refine lv_aload_n hx hb dX5_stale_29 rfl (lv_at hl 2 rfl) ?_
      refine va_get (D := (dC, dI)) (ci := 5) (v := .int (nI en)) (C := RX5) (T := TX5) (N := 30) hx hb hta inA_X5 hown hK hP 0 rfl rfl 8 (by decide) (hta _ aw_519) (fun _ h9 => h9) rfl dX5_stale_30 ?_
      refine lv_icmp_ge (tgt := 72) hx hb dX5_stale_33 (by decide) (fun c_33_7 => ?_) (fun c_33_7 => ?_)
      · exact absurd c_33_7 (nI_ge (by omega) (by omega))
      · refine lv_iload_n hx hb dX5_stale_36 rfl (lv_at hl 1 rfl) ?_
        refine lv_aload_n hx hb dX5_stale_37 rfl (lv_at hl 2 rfl) ?_
        refine va_get (D := (dC, dI)) (ci := 5) (v := .ref (ga 4)) (C := RX5) (T := TX5) (N := 30) hx hb hta inA_X5 hown hK hP 0 rfl rfl 10 (by decide) (hta _ aw_521) (fun _ h9 => h9) rfl dX5_stale_38 ?_
        refine lv_iload_n hx hb dX5_stale_41 rfl (lv_at hl 0 rfl) ?_
        refine va_iald hx hb hK hP 4 3 rfl rfl (vp_in_nI (by omega) (by omega)) dX5_stale_42 ?_
        rw [nI_clamp (show i < 2 ^ 31 by omega)]
        refine lv_aload_n hx hb dX5_stale_43 rfl (lv_at hl 2 rfl) ?_
        refine va_get (D := (dC, dI)) (ci := 5) (v := .int f1) (C := RX5) (T := TX5) (N := 30) hx hb hta inA_X5 hown hK hP 0 rfl rfl 4 (by decide) (hta _ aw_515) (fun _ h9 => h9) rfl dX5_stale_44 ?_
        refine lv_icmp_ne (tgt := 63) hx hb dX5_stale_47 (by decide) (fun c_47_8 => ?_) (fun c_47_8 => ?_)
        · refine lv_iconst (v := 0) hx hb dX5_stale_63 (by decide) ?_
          refine lv_iadd hx hb dX5_stale_64 ?_
          rw [show (nI t) + (0 : Int32) = nI (t + 0) from nI_add t 0]
          refine lv_istore_n (lv' := [(2, .int (nI (t + 0))), (3, .int (nI i)), (0, .ref (ga 0)), (1, .int p0)]) hx hb dX5_stale_65 rfl hl (by decide) rfl (fun ls hl => ?_)
          refine lv_iinc (v := nI (i + 1)) (lv' := [(3, .int (nI (i + 1))), (2, .int (nI (t + 0))), (0, .ref (ga 0)), (1, .int p0)]) hx hb dX5_stale_66 hl (k := 1) rfl (cx_inc i 1 rfl) (by decide) rfl (fun ls hl => ?_)
          refine lv_goto (tgt := 28) hx hb dX5_stale_69 (by decide) ?_
          exact ih _ _ _ _ _ _ _ _ (by omega) (by omega) (by rewrite [hm, mStM]; rewrite [if_neg c_47_8]; (first | done | rfl)) H locs hP hD hS ls (lv_sub hl [0, 1, 2, 3] rfl)
        · refine lv_aload_n hx hb dX5_stale_50 rfl (lv_at hl 2 rfl) ?_
          refine lv_iload_n hx hb dX5_stale_51 rfl (lv_at hl 0 rfl) ?_
          refine lv_iload_n hx hb dX5_stale_52 rfl (lv_at hl 3 rfl) ?_
          have hFc : ∀ q, va_A (MWl ga gk (0 : Int32) L N mm f1 mr mh f8 en us eC eL eB eF eR eU eX f2 f3 f4 f5 f6 f7 f14 ff1 fa1 mn1 lg1 cm1 wa1) H.size q → A q := cx_free hD hS hA
          refine va_calli (va_runV (As := [.int (nI i), .int p0]) (rest := [.int (nI t)]) ⟨hx, hb, hml, hown, hta⟩ (c_X5_isStale l dC dI ga gk (0 : Int32) L N mm f1 mr mh f8 en us eC eL eB eF eR eU eX f2 f3 f4 f5 f6 f7 f14 ff1 fa1 mn1 lg1 cm1 wa1 H.size i p0 hL1 hL4 hf1 (by omega)) (cwV 2 hta (gV aw_743 aw_745 aw_36 aw_43 aw_746) rfl rfl rfl (by decide +kernel) ⟨Nat.le_of_ble_eq_true rfl, Nat.le_of_ble_eq_true rfl⟩) (cx_preVQ hK hP hN (va_recv hK hP (ci := 5) (q0 := 0) rfl rfl) hD) rfl rfl hl.1 rfl (lv_room (Nat.le_of_ble_eq_true rfl)) dX5_stale_53 ⟨Nat.le_of_ble_eq_true rfl, Nat.le_of_ble_eq_true rfl⟩) hS (fun q _ h => hFc q h) hFc (fun r_10 u t9 H1 locs ht hvm hw_10 hB hz1 hk1 hS => ?_)
          obtain ⟨ff_10, fa_10, mn_10, lg_10, cm_10, wa_10⟩ := u
          obtain ⟨hP, hK1, hD1⟩ := hB
          rw [ht] at hP
          have hD := hD1.weaken (fun _ _ _ h => hFc _ h)
          clear hFc hz1 hk1 hK1 hD1 ht hvm
          generalize H1 = H at hP hS ⊢
          have hP : va_P (dC, dI) vwCl (MWl ga gk (0 : Int32) L N mm f1 mr mh f8 en us eC eL eB eF eR eU eX f2 f3 f4 f5 f6 f7 f14 ff_10 fa_10 mn_10 lg_10 cm_10 wa_10) H := hP
          have hD : va_D A (MWl ga gk (0 : Int32) L N mm f1 mr mh f8 en us eC eL eB eF eR eU eX f2 f3 f4 f5 f6 f7 f14 ff_10 fa_10 mn_10 lg_10 cm_10 wa_10) := hD
          refine lv_if_eq (tgt := 63) hx hb dX5_stale_56 (by decide) (fun c_56_10 => ?_) (fun c_56_10 => ?_)
          · refine lv_iconst (v := 0) hx hb dX5_stale_63 (by decide) ?_
            refine lv_iadd hx hb dX5_stale_64 ?_
            rw [show (nI t) + (0 : Int32) = nI (t + 0) from nI_add t 0]
            refine lv_istore_n (lv' := [(2, .int (nI (t + 0))), (3, .int (nI i)), (0, .ref (ga 0)), (1, .int p0)]) hx hb dX5_stale_65 rfl hl (by decide) rfl (fun ls hl => ?_)
            refine lv_iinc (v := nI (i + 1)) (lv' := [(3, .int (nI (i + 1))), (2, .int (nI (t + 0))), (0, .ref (ga 0)), (1, .int p0)]) hx hb dX5_stale_66 hl (k := 1) rfl (cx_inc i 1 rfl) (by decide) rfl (fun ls hl => ?_)
            refine lv_goto (tgt := 28) hx hb dX5_stale_69 (by decide) ?_
            exact ih _ _ _ _ _ _ _ _ (by omega) (by omega) (by rewrite [hm, mStM]; rewrite [if_pos c_47_8]; rewrite [← hw_10]; (try dsimp only); rewrite [if_pos c_56_10]; (first | done | rfl)) H locs hP hD hS ls (lv_sub hl [0, 1, 2, 3] rfl)
          · refine lv_iconst (v := 1) hx hb dX5_stale_59 (by decide) ?_
            refine lv_goto (tgt := 64) hx hb dX5_stale_60 (by decide) ?_
            refine lv_iadd hx hb dX5_stale_64 ?_
            rw [show (nI t) + (1 : Int32) = nI (t + 1) from nI_add t 1]
            refine lv_istore_n (lv' := [(2, .int (nI (t + 1))), (3, .int (nI i)), (0, .ref (ga 0)), (1, .int p0)]) hx hb dX5_stale_65 rfl hl (by decide) rfl (fun ls hl => ?_)
            refine lv_iinc (v := nI (i + 1)) (lv' := [(3, .int (nI (i + 1))), (2, .int (nI (t + 1))), (0, .ref (ga 0)), (1, .int p0)]) hx hb dX5_stale_66 hl (k := 1) rfl (cx_inc i 1 rfl) (by decide) rfl (fun ls hl => ?_)
            refine lv_goto (tgt := 28) hx hb dX5_stale_69 (by decide) ?_
            exact ih _ _ _ _ _ _ _ _ (by omega) (by omega) (by rewrite [hm, mStM]; rewrite [if_pos c_47_8]; rewrite [← hw_10]; (try dsimp only); rewrite [if_neg c_56_10]; (first | done | rfl)) H locs hP hD hS ls (lv_sub hl [0, 1, 2, 3] rfl)
  refine lv_aload_n hx hb dX5_stale_0 rfl (lv_at hl 0 rfl) ?_
  refine lv_iload_n hx hb dX5_stale_1 rfl (lv_at hl 1 rfl) ?_
  refine lv_bipush (v := 6) hx hb dX5_stale_2 (by decide) ?_
  refine cx_callSi (va_runS (As := [.int p0, .int (6 : Int32)]) (rest := [.ref (ga 0)]) ⟨hx, hb, hml, hown, hta⟩ (c_X5_isOf l p0 (6 : Int32)) (va_cwS 2 hta (gS aw_611 aw_612 aw_43 aw_613) rfl rfl rfl (by decide +kernel) ⟨Nat.le_of_ble_eq_true rfl, Nat.le_of_ble_eq_true rfl⟩) cx_pre0 rfl rfl hl.1 rfl (lv_room (Nat.le_of_ble_eq_true rfl)) dX5_stale_4 ⟨Nat.le_of_ble_eq_true rfl, Nat.le_of_ble_eq_true rfl⟩) (fun r hw_1 => ?_)
  subst hw_1
  refine lv_if_ne (tgt := 14) hx hb dX5_stale_7 (by decide) (fun c_7_1 => ?_) (fun c_7_1 => ?_)
  · refine lv_iconst (v := 0) hx hb dX5_stale_14 (by decide) ?_
    refine lv_iconst (v := 0) hx hb dX5_stale_15 (by decide) ?_
    have hFc : ∀ q, va_A (MWl ga gk th L N mm f1 mr mh f8 en us eC eL eB eF eR eU eX f2 f3 f4 f5 f6 f7 f14 ff fa mn lg cm wa) s.heap.size q → A q := cx_free hD hS hA
    refine va_calli (va_runV (As := [.int (0 : Int32), .int (0 : Int32)]) (rest := []) ⟨hx, hb, hml, hown, hta⟩ (c_X5_throwing l dC dI ga gk th L N mm f1 mr mh f8 en us eC eL eB eF eR eU eX f2 f3 f4 f5 f6 f7 f14 ff fa mn lg cm wa s.heap.size (0 : Int32) (0 : Int32)) (cwV 2 hta (gV aw_614 aw_616 aw_20 aw_43 aw_617) rfl rfl rfl (by decide +kernel) ⟨Nat.le_of_ble_eq_true rfl, Nat.le_of_ble_eq_true rfl⟩) (cx_preVQ hK hP hN (va_recv hK hP (ci := 5) (q0 := 0) rfl rfl) hD) rfl rfl hl.1 rfl (lv_room (Nat.le_of_ble_eq_true rfl)) dX5_stale_16 ⟨Nat.le_of_ble_eq_true rfl, Nat.le_of_ble_eq_true rfl⟩) hS (fun q _ h => hFc q h) hFc (fun r_3 u t9 H1 locs ht hvm hw_3 hB hz1 hk1 hS => ?_)
    obtain ⟨th_3, rfl⟩ : ∃ z, z = u := ⟨_, rfl⟩
    obtain ⟨hP, hK1, hD1⟩ := hB
    rw [ht] at hP
    have hD := hD1.weaken (fun _ _ _ h => hFc _ h)
    clear hFc hz1 hk1 hK1 hD1 ht hvm
    generalize H1 = H at hP hS ⊢
    have hP : va_P (dC, dI) vwCl (MWl ga gk th_3 L N mm f1 mr mh f8 en us eC eL eB eF eR eU eX f2 f3 f4 f5 f6 f7 f14 ff fa mn lg cm wa) H := hP
    have hD : va_D A (MWl ga gk th_3 L N mm f1 mr mh f8 en us eC eL eB eF eR eU eX f2 f3 f4 f5 f6 f7 f14 ff fa mn lg cm wa) := hD
    obtain ⟨rfl, rfl⟩ : r_3 = (0 : Int32) ∧ th_3 = (0 : Int32) := by
      have h9 := hw_3
      unfold mX5_throwing at h9
      cases h9
      exact ⟨rfl, rfl⟩
    refine lv_if_eq (tgt := 24) hx hb dX5_stale_19 (by decide) (fun c_19_3 => ?_) (fun c_19_3 => ?_)
    · refine lv_iconst (v := 0) hx hb dX5_stale_24 (by decide) ?_
      refine lv_istore_n (lv' := [(2, .int (0 : Int32)), (0, .ref (ga 0)), (1, .int p0)]) hx hb dX5_stale_25 rfl hl (by decide) rfl (fun ls hl => ?_)
      refine lv_iconst (v := 0) hx hb dX5_stale_26 (by decide) ?_
      refine lv_istore_n (lv' := [(3, .int (0 : Int32)), (2, .int (0 : Int32)), (0, .ref (ga 0)), (1, .int p0)]) hx hb dX5_stale_27 rfl hl (by decide) rfl (fun ls hl => ?_)
      exact loop c_7_1 en 0 0 _ _ _ _ _ _ (by omega) (by omega) rfl H locs hP hD hS ls (lv_sub hl [0, 1, 2, 3] rfl)
    · exact absurd (by decide) c_19_3
  · refine lv_iconst (v := 1) hx hb dX5_stale_10 (by decide) ?_
    refine lv_goto (tgt := 15) hx hb dX5_stale_11 (by decide) ?_
    refine lv_iconst (v := 0) hx hb dX5_stale_15 (by decide) ?_
    have hFc : ∀ q, va_A (MWl ga gk th L N mm f1 mr mh f8 en us eC eL eB eF eR eU eX f2 f3 f4 f5 f6 f7 f14 ff fa mn lg cm wa) s.heap.size q → A q := cx_free hD hS hA
    refine va_calli (va_runV (As := [.int (1 : Int32), .int (0 : Int32)]) (rest := []) ⟨hx, hb, hml, hown, hta⟩ (c_X5_throwing l dC dI ga gk th L N mm f1 mr mh f8 en us eC eL eB eF eR eU eX f2 f3 f4 f5 f6 f7 f14 ff fa mn lg cm wa s.heap.size (1 : Int32) (0 : Int32)) (cwV 2 hta (gV aw_614 aw_616 aw_20 aw_43 aw_617) rfl rfl rfl (by decide +kernel) ⟨Nat.le_of_ble_eq_true rfl, Nat.le_of_ble_eq_true rfl⟩) (cx_preVQ hK hP hN (va_recv hK hP (ci := 5) (q0 := 0) rfl rfl) hD) rfl rfl hl.1 rfl (lv_room (Nat.le_of_ble_eq_true rfl)) dX5_stale_16 ⟨Nat.le_of_ble_eq_true rfl, Nat.le_of_ble_eq_true rfl⟩) hS (fun q _ h => hFc q h) hFc (fun r_5 u t9 H1 locs ht hvm hw_5 hB hz1 hk1 hS => ?_)
    obtain ⟨th_5, rfl⟩ : ∃ z, z = u := ⟨_, rfl⟩
    obtain ⟨hP, hK1, hD1⟩ := hB
    rw [ht] at hP
    have hD := hD1.weaken (fun _ _ _ h => hFc _ h)
    clear hFc hz1 hk1 hK1 hD1 ht hvm
    generalize H1 = H at hP hS ⊢
    have hP : va_P (dC, dI) vwCl (MWl ga gk th_5 L N mm f1 mr mh f8 en us eC eL eB eF eR eU eX f2 f3 f4 f5 f6 f7 f14 ff fa mn lg cm wa) H := hP
    have hD : va_D A (MWl ga gk th_5 L N mm f1 mr mh f8 en us eC eL eB eF eR eU eX f2 f3 f4 f5 f6 f7 f14 ff fa mn lg cm wa) := hD
    obtain ⟨rfl, rfl⟩ : r_5 = (1 : Int32) ∧ th_5 = (1 : Int32) := by
      have h9 := hw_5
      unfold mX5_throwing at h9
      cases h9
      exact ⟨rfl, rfl⟩
    refine lv_if_eq (tgt := 24) hx hb dX5_stale_19 (by decide) (fun c_19_5 => ?_) (fun c_19_5 => ?_)
    · exact absurd c_19_5 (by decide)
    · refine lv_iconst (v := 0) hx hb dX5_stale_22 (by decide) ?_
      exact W.iret (v := (0 : Int32)) hx hb hr (fun t ht hW => ⟨⟨(0 : Int32), ((1 : Int32), ff, fa, mn, lg, cm, wa), rfl, (by unfold mSt; rw [if_pos c_7_1]), by rw [ht]; exact hP, va_K.moved hW.alike hK, hD⟩, hS.F ht⟩) hS.2.2 dX5_stale_23
