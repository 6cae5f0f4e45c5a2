/-- PageRowsModel.flush: entries k-1 .. 0, c gone so far -/
def mFlL (f1 p0 p1 : Int32) : Nat → Nat → EST → Nat × EST
  | 0, c, x => (c, x)
  | k + 1, c, x => if (p0 = (1 : Int32) ∧ ¬ x.2.1 k = f1) ∨ (p0 = (2 : Int32) ∧ mX5_fits f1 x.2.1 x.2.2.1 x.2.2.2.1 k p1 = 0) then mFlL f1 p0 p1 k c x else mFlL f1 p0 p1 k (c + 1) (mDropT x k)
def mFl (p0 : Int32) (x0 : EST) (x : Nat × EST) : Int32 × Int32 × EST := if mX5_isOf p0 (3 : Int32) = 0 then ((0 : Int32), (1 : Int32), x0) else (nI x.1, (0 : Int32), x.2)

set_option maxHeartbeats 4000000 in
set_option maxRecDepth 100000 in
theorem c_X5_flush (l : Launch) (dC : Nat → ClassId) (dI : Nat → Nat → Nat) (ga : Nat → Nat) (gk : Nat → ClassId) (th : Int32) (L : Nat) (N : Nat) (mm : Nat → Int64) (f1 : Int32) (mr : Nat → Int32) (mh : Nat → Int32) (f8 : Int32) (en : Nat) (us : Nat) (eC : Nat → Int32) (eL : Nat → Int32) (eB : Nat → Int32) (eF : Nat → Int32) (eR : Nat → Int32) (eU : Nat → Int32) (eX : Nat → Int32) (f2 : Int32) (f3 : Int32) (f4 : Int32) (f5 : Int32) (f6 : Int32) (f7 : Int32) (f14 : Int32) (ff : Int32) (fa : Int32) (mn : Nat) (lg : Int32) (cm : Int32) (wa : Nat → Int32)  (sz : Nat) (p0 : Int32) (p1 : Int32) (hen : en ≤ N) (hN32 : N ≤ 32) (hzx0 : ∀ i, ZB (eX i)) : Met l yX5_flush (wX5_flush :: AW) ({ frames := 1, cells := 0, slots := 0, locals := 22 }) (va_Pc [.ref (ga 0), .int p0, .int p1] (CPrQ dC dI (MWl ga gk th L N mm f1 mr mh f8 en us eC eL eB eF eR eU eX f2 f3 f4 f5 f6 f7 f14 ff fa mn lg cm wa) [(gk 0, .long), (gk 1, .int), (gk 2, .int), (gk 3, .int), (gk 4, .int), (gk 5, .int), (gk 6, .int), (gk 7, .int), (gk 8, .int), (gk 9, .boolean), (gk 10, .int)] sz)) (va_Qi (fun (r : Int32) (u : Int32 × Nat × (Nat → Int32) × (Nat → Int32) × (Nat → Int32) × (Nat → Int32) × (Nat → Int32) × (Nat → Int32) × (Nat → Int32)) => (r, u) = mFl p0 (en, eC, eL, eB, eF, eR, eU, eX) (mFlL f1 p0 p1 en 0 (en, eC, eL, eB, eF, eR, eU, eX))) (fun (u : Int32 × Nat × (Nat → Int32) × (Nat → Int32) × (Nat → Int32) × (Nat → Int32) × (Nat → Int32) × (Nat → Int32) × (Nat → Int32)) (t : State) => match u with | (th', en', eC', eL', eB', eF', eR', eU', eX') => va_P (dC, dI) vwCl (MWl ga gk th' L N mm f1 mr mh f8 en' us eC' eL' eB' eF' eR' eU' eX' f2 f3 f4 f5 f6 f7 f14 ff fa mn lg cm wa) t.heap ∧ va_K (dC, dI) vwCl [(gk 0, .long), (gk 1, .int), (gk 2, .int), (gk 3, .int), (gk 4, .int), (gk 5, .int), (gk 6, .int), (gk 7, .int), (gk 8, .int), (gk 9, .boolean), (gk 10, .int)] t ∧ va_D (va_A (MWl ga gk th L N mm f1 mr mh f8 en us eC eL eB eF eR eU eX f2 f3 f4 f5 f6 f7 f14 ff fa mn lg cm wa) sz) (MWl ga gk th' L N mm f1 mr mh f8 en' us eC' eL' eB' eF' eR' eU' eX' f2 f3 f4 f5 f6 f7 f14 ff fa mn lg cm wa)) (va_A (MWl ga gk th L N mm f1 mr mh f8 en us eC eL eB eF eR eU eX f2 f3 f4 f5 f6 f7 f14 ff fa mn lg cm wa) sz)) 0 0 (va_A (MWl ga gk th L N mm f1 mr mh f8 en us eC eL eB eF eR eU eX f2 f3 f4 f5 f6 f7 f14 ff fa mn lg cm wa) sz) := by
  refine cx_of (cc := cX5_flush) (maxL := 5) (ret := some .int) (by decide) rfl (Nat.le_of_ble_eq_true rfl) ?_
  intro p e s m below meth c ls hx hb hr hts hown hlocks hml hnm hl hB
  have hta : ∀ w ∈ AW, w.before [.ref (ga 0), .int p0, .int p1].toArray s = true := fun w h => hts w (List.mem_cons_of_mem _ h)
  have hl : lv_has ls 5 [(0, .ref (ga 0)), (1, .int p0), (2, .int p1)] := hl
  have hown : s.vm.findClass RX5 = some m.cls := hown
  obtain ⟨rfl, ⟨hP, hK, hN⟩, hD0⟩ := hB
  have hD := hD0.self (sz := s.heap.size)
  generalize hAe : va_A (MWl ga gk th L N mm f1 mr mh f8 en us eC eL eB eF eR eU eX f2 f3 f4 f5 f6 f7 f14 ff fa mn lg cm wa) s.heap.size = A at hD ⊢
  have hA : ∀ q : Nat, s.heap.size ≤ q → A q := fun q h => by rw [← hAe]; exact Or.inr h
  have hS : va_S A s.heap s.heap [] := va_S.rf
  have loop : ¬ mX5_isOf p0 (3 : Int32) = 0 → ∀ (k9 c9 : Nat) (en1 : Nat) (eC1 eL1 eB1 eF1 eR1 eU1 eX1 : Nat → Int32), k9 ≤ en1 → en1 ≤ N → (∀ i, ZB (eX1 i)) → mFlL f1 p0 p1 en 0 (en, eC, eL, eB, eF, eR, eU, eX) = mFlL f1 p0 p1 k9 c9 (en1, eC1, eL1, eB1, eF1, eR1, eU1, eX1) → ∀ (H : Heap) (locs : List Loc), va_P (dC, dI) vwCl (MWl ga gk (0 : Int32) L N mm f1 mr mh f8 en1 us eC1 eL1 eB1 eF1 eR1 eU1 eX1 f2 f3 f4 f5 f6 f7 f14 ff fa mn lg cm wa) H → va_D A (MWl ga gk (0 : Int32) L N mm f1 mr mh f8 en1 us eC1 eL1 eB1 eF1 eR1 eU1 eX1 f2 f3 f4 f5 f6 f7 f14 ff fa mn lg cm wa) → va_S A s.heap H locs → ∀ (ls : Array Slot), lv_has ls 5 [(4, .int (predI k9)), (3, .int (nI c9)), (0, .ref (ga 0)), (1, .int p0), (2, .int p1)] → W p l e ({ frames := 1, cells := 0, slots := 0, locals := 22 }) s m [.ref (ga 0), .int p0, .int p1].toArray below meth c H locs 0 0 (MQ below (va_Qi (fun (r : Int32) (u : Int32 × Nat × (Nat → Int32) × (Nat → Int32) × (Nat → Int32) × (Nat → Int32) × (Nat → Int32) × (Nat → Int32) × (Nat → Int32)) => (r, u) = mFl p0 (en, eC, eL, eB, eF, eR, eU, eX) (mFlL f1 p0 p1 en 0 (en, eC, eL, eB, eF, eR, eU, eX))) (fun (u : Int32 × Nat × (Nat → Int32) × (Nat → Int32) × (Nat → Int32) × (Nat → Int32) × (Nat → Int32) × (Nat → Int32) × (Nat → Int32)) (t : State) => match u with | (th', en', eC', eL', eB', eF', eR', eU', eX') => va_P (dC, dI) vwCl (MWl ga gk th' L N mm f1 mr mh f8 en' us eC' eL' eB' eF' eR' eU' eX' f2 f3 f4 f5 f6 f7 f14 ff fa mn lg cm wa) t.heap ∧ va_K (dC, dI) vwCl [(gk 0, .long), (gk 1, .int), (gk 2, .int), (gk 3, .int), (gk 4, .int), (gk 5, .int), (gk 6, .int), (gk 7, .int), (gk 8, .int), (gk 9, .boolean), (gk 10, .int)] t ∧ va_D A (MWl ga gk th' L N mm f1 mr mh f8 en' us eC' eL' eB' eF' eR' eU' eX' f2 f3 f4 f5 f6 f7 f14 ff fa mn lg cm wa)) A) [.ref (ga 0), .int p0, .int p1].toArray s 0 0 A) (F0 m 33 ls []) := by
    intro hkd k9
    induction k9 with
    | zero =>
      intro c9 en1 eC1 eL1 eB1 eF1 eR1 eU1 eX1 hk hen1 hzx hm H locs hP hD hS ls hl
      have hl : lv_has ls 5 [(4, .int (-1 : Int32)), (3, .int (nI c9)), (0, .ref (ga 0)), (1, .int p0), (2, .int p1)] := hl
      refine lv_iload hx hb dX5_flush_33 (lv_at hl 0 rfl) ?_
      refine lv_if_lt (tgt := 90) hx hb dX5_flush_35 (by decide) (fun c_35_6 => ?_) (fun c_35_6 => ?_)
      · refine lv_iload_n hx hb dX5_flush_90 rfl (lv_at hl 1 rfl) ?_
        exact W.iret (v := nI c9) hx hb hr (fun t9 ht hW => ⟨⟨nI c9, ((0 : Int32), en1, eC1, eL1, eB1, eF1, eR1, eU1, eX1), rfl, (by unfold mFl; rw [if_neg hkd, hm]; rfl), by rw [ht]; exact hP, va_K.moved hW.alike hK, hD⟩, hS.F ht⟩) hS.2.2 dX5_flush_91
      · exact absurd (by decide) c_35_6
    | succ k9 ih =>
      intro c9 en1 eC1 eL1 eB1 eF1 eR1 eU1 eX1 hk hen1 hzx hm H locs hP hD hS ls hl
      have hl : lv_has ls 5 [(4, .int (nI k9)), (3, .int (nI c9)), (0, .ref (ga 0)), (1, .int p0), (2, .int p1)] := hl
      refine lv_iload hx hb dX5_flush_33 (lv_at hl 0 rfl) ?_
      refine lv_if_lt (tgt := 90) hx hb dX5_flush_35 (by decide) (fun c_35_7 => ?_) (fun c_35_7 => ?_)
      · exact absurd c_35_7 (nI_pos (by omega))
      · refine lv_iload_n hx hb dX5_flush_38 rfl (lv_at hl 3 rfl) ?_
        refine lv_iconst (v := 1) hx hb dX5_flush_39 (by decide) ?_
        refine lv_icmp_ne (tgt := 57) hx hb dX5_flush_40 (by decide) (fun c_40_8 => ?_) (fun c_40_8 => ?_)
        · refine lv_iload_n hx hb dX5_flush_57 rfl (lv_at hl 3 rfl) ?_
          refine lv_iconst (v := 2) hx hb dX5_flush_58 (by decide) ?_
          refine lv_icmp_ne (tgt := 75) hx hb dX5_flush_59 (by decide) (fun c_59_9 => ?_) (fun c_59_9 => ?_)
          · refine lv_aload_n hx hb dX5_flush_75 rfl (lv_at hl 2 rfl) ?_
            refine lv_iload hx hb dX5_flush_76 (lv_at hl 0 rfl) ?_
            have hFc : ∀ q, va_A (MWl ga gk (0 : Int32) L N mm f1 mr mh f8 en1 us eC1 eL1 eB1 eF1 eR1 eU1 eX1 f2 f3 f4 f5 f6 f7 f14 ff fa mn lg cm wa) H.size q → A q := cx_free hD hS hA
            refine va_callv (va_runV (As := [.int (nI k9)]) (rest := []) ⟨hx, hb, hml, hown, hta⟩ (c_X5_drop l dC dI ga gk (0 : Int32) L N mm f1 mr mh f8 en1 us eC1 eL1 eB1 eF1 eR1 eU1 eX1 f2 f3 f4 f5 f6 f7 f14 ff fa mn lg cm wa H.size k9 (by omega) (by omega) (by omega) hzx) (cwV 1 hta (gV aw_711 aw_713 aw_34 aw_43 aw_714) rfl rfl rfl (by decide +kernel) ⟨Nat.le_of_ble_eq_true rfl, Nat.le_of_ble_eq_true rfl⟩) (cx_preVQ hK hP hN (va_recv hK hP (ci := 5) (q0 := 0) rfl rfl) hD) rfl rfl hl.1 rfl (lv_room (Nat.le_of_ble_eq_true rfl)) dX5_flush_78 ⟨Nat.le_of_ble_eq_true rfl, Nat.le_of_ble_eq_true rfl⟩) hS (fun q _ h => hFc q h) hFc (fun u t9 H1 locs ht hvm hw_11 hB hz1 hk1 hS => ?_)
            obtain ⟨en_11, eC_11, eL_11, eB_11, eF_11, eR_11, eU_11, eX_11⟩ := u
            obtain ⟨hP, hK1, hD1⟩ := hB
            rw [ht] at hP
            have hD := hD1.weaken (fun _ _ _ h => hFc _ h)
            clear hFc hz1 hk1 hK1 hD1 ht hvm
            generalize H1 = H at hP hS ⊢
            have hP : va_P (dC, dI) vwCl (MWl ga gk (0 : Int32) L N mm f1 mr mh f8 en_11 us eC_11 eL_11 eB_11 eF_11 eR_11 eU_11 eX_11 f2 f3 f4 f5 f6 f7 f14 ff fa mn lg cm wa) H := hP
            have hD : va_D A (MWl ga gk (0 : Int32) L N mm f1 mr mh f8 en_11 us eC_11 eL_11 eB_11 eF_11 eR_11 eU_11 eX_11 f2 f3 f4 f5 f6 f7 f14 ff fa mn lg cm wa) := hD
            refine lv_iinc (v := nI (c9 + 1)) (lv' := [(3, .int (nI (c9 + 1))), (4, .int (nI k9)), (0, .ref (ga 0)), (1, .int p0), (2, .int p1)]) hx hb dX5_flush_81 hl (k := 1) rfl (cx_inc c9 1 rfl) (by decide) rfl (fun ls hl => ?_)
            refine lv_iinc (v := predI k9) (lv' := [(4, .int (predI k9)), (3, .int (nI (c9 + 1))), (0, .ref (ga 0)), (1, .int p0), (2, .int p1)]) hx hb dX5_flush_84 hl (k := 1) rfl (predI_dec k9 rfl) (by decide) rfl (fun ls hl => ?_)
            refine lv_goto (tgt := 33) hx hb dX5_flush_87 (by decide) ?_
            obtain ⟨he9, hz9⟩ := drop_ok hw_11 hzx
            exact ih (c9 + 1) _ _ _ _ _ _ _ _ (by omega) (by omega) hz9 (by rewrite [hm, mFlL]; rewrite [if_neg (show ¬ _ from fun q => q.elim (fun q => c_40_8 q.1) (fun q => c_59_9 q.1))]; show mFlL _ _ _ _ _ (mX5_drop en1 eC1 eL1 eB1 eF1 eR1 eU1 eX1 k9) = _; rewrite [← hw_11]; rfl) H locs hP hD hS ls (lv_sub hl [0, 1, 2, 3, 4] rfl)
          · refine lv_aload_n hx hb dX5_flush_62 rfl (lv_at hl 2 rfl) ?_
            refine lv_iload hx hb dX5_flush_63 (lv_at hl 0 rfl) ?_
            refine lv_iload_n hx hb dX5_flush_65 rfl (lv_at hl 4 rfl) ?_
            refine cx_callSi (va_runV (As := [.int (nI k9), .int p1]) (rest := []) ⟨hx, hb, hml, hown, hta⟩ (c_X5_fits l dC dI ga gk (0 : Int32) L N mm f1 mr mh f8 en1 us eC1 eL1 eB1 eF1 eR1 eU1 eX1 f2 f3 f4 f5 f6 f7 f14 ff fa mn lg cm wa k9 p1 (by omega)) (cwV 2 hta (gV aw_651 aw_653 aw_23 aw_43 aw_654) rfl rfl rfl (by decide +kernel) ⟨Nat.le_of_ble_eq_true rfl, Nat.le_of_ble_eq_true rfl⟩) (cx_preVS hK hP hN (va_recv hK hP (ci := 5) (q0 := 0) rfl rfl)) rfl rfl hl.1 rfl (lv_room (Nat.le_of_ble_eq_true rfl)) dX5_flush_66 ⟨Nat.le_of_ble_eq_true rfl, Nat.le_of_ble_eq_true rfl⟩) (fun r hw_12 => ?_)
            subst hw_12
            refine lv_if_ne (tgt := 75) hx hb dX5_flush_69 (by decide) (fun c_69_12 => ?_) (fun c_69_12 => ?_)
            · refine lv_aload_n hx hb dX5_flush_75 rfl (lv_at hl 2 rfl) ?_
              refine lv_iload hx hb dX5_flush_76 (lv_at hl 0 rfl) ?_
              have hFc : ∀ q, va_A (MWl ga gk (0 : Int32) L N mm f1 mr mh f8 en1 us eC1 eL1 eB1 eF1 eR1 eU1 eX1 f2 f3 f4 f5 f6 f7 f14 ff fa mn lg cm wa) H.size q → A q := cx_free hD hS hA
              refine va_callv (va_runV (As := [.int (nI k9)]) (rest := []) ⟨hx, hb, hml, hown, hta⟩ (c_X5_drop l dC dI ga gk (0 : Int32) L N mm f1 mr mh f8 en1 us eC1 eL1 eB1 eF1 eR1 eU1 eX1 f2 f3 f4 f5 f6 f7 f14 ff fa mn lg cm wa H.size k9 (by omega) (by omega) (by omega) hzx) (cwV 1 hta (gV aw_711 aw_713 aw_34 aw_43 aw_714) rfl rfl rfl (by decide +kernel) ⟨Nat.le_of_ble_eq_true rfl, Nat.le_of_ble_eq_true rfl⟩) (cx_preVQ hK hP hN (va_recv hK hP (ci := 5) (q0 := 0) rfl rfl) hD) rfl rfl hl.1 rfl (lv_room (Nat.le_of_ble_eq_true rfl)) dX5_flush_78 ⟨Nat.le_of_ble_eq_true rfl, Nat.le_of_ble_eq_true rfl⟩) hS (fun q _ h => hFc q h) hFc (fun u t9 H1 locs ht hvm hw_14 hB hz1 hk1 hS => ?_)
              obtain ⟨en_14, eC_14, eL_14, eB_14, eF_14, eR_14, eU_14, eX_14⟩ := u
              obtain ⟨hP, hK1, hD1⟩ := hB
              rw [ht] at hP
              have hD := hD1.weaken (fun _ _ _ h => hFc _ h)
              clear hFc hz1 hk1 hK1 hD1 ht hvm
              generalize H1 = H at hP hS ⊢
              have hP : va_P (dC, dI) vwCl (MWl ga gk (0 : Int32) L N mm f1 mr mh f8 en_14 us eC_14 eL_14 eB_14 eF_14 eR_14 eU_14 eX_14 f2 f3 f4 f5 f6 f7 f14 ff fa mn lg cm wa) H := hP
              have hD : va_D A (MWl ga gk (0 : Int32) L N mm f1 mr mh f8 en_14 us eC_14 eL_14 eB_14 eF_14 eR_14 eU_14 eX_14 f2 f3 f4 f5 f6 f7 f14 ff fa mn lg cm wa) := hD
              refine lv_iinc (v := nI (c9 + 1)) (lv' := [(3, .int (nI (c9 + 1))), (4, .int (nI k9)), (0, .ref (ga 0)), (1, .int p0), (2, .int p1)]) hx hb dX5_flush_81 hl (k := 1) rfl (cx_inc c9 1 rfl) (by decide) rfl (fun ls hl => ?_)
              refine lv_iinc (v := predI k9) (lv' := [(4, .int (predI k9)), (3, .int (nI (c9 + 1))), (0, .ref (ga 0)), (1, .int p0), (2, .int p1)]) hx hb dX5_flush_84 hl (k := 1) rfl (predI_dec k9 rfl) (by decide) rfl (fun ls hl => ?_)
              refine lv_goto (tgt := 33) hx hb dX5_flush_87 (by decide) ?_
              obtain ⟨he9, hz9⟩ := drop_ok hw_14 hzx
              exact ih (c9 + 1) _ _ _ _ _ _ _ _ (by omega) (by omega) hz9 (by rewrite [hm, mFlL]; rewrite [if_neg (show ¬ _ from fun q => q.elim (fun q => c_40_8 q.1) (fun q => c_69_12 q.2))]; show mFlL _ _ _ _ _ (mX5_drop en1 eC1 eL1 eB1 eF1 eR1 eU1 eX1 k9) = _; rewrite [← hw_14]; rfl) H locs hP hD hS ls (lv_sub hl [0, 1, 2, 3, 4] rfl)
            · refine lv_goto (tgt := 84) hx hb dX5_flush_72 (by decide) ?_
              refine lv_iinc (v := predI k9) (lv' := [(4, .int (predI k9)), (3, .int (nI c9)), (0, .ref (ga 0)), (1, .int p0), (2, .int p1)]) hx hb dX5_flush_84 hl (k := 0) rfl (predI_dec k9 rfl) (by decide) rfl (fun ls hl => ?_)
              refine lv_goto (tgt := 33) hx hb dX5_flush_87 (by decide) ?_
              exact ih c9 _ _ _ _ _ _ _ _ (by omega) hen1 hzx (by rewrite [hm, mFlL]; rewrite [if_pos (Or.inr ⟨c_59_9, c_69_12⟩)]; rfl) H locs hP hD hS ls (lv_sub hl [0, 1, 2, 3, 4] rfl)
        · refine lv_aload_n hx hb dX5_flush_43 rfl (lv_at hl 2 rfl) ?_
          refine va_get (D := (dC, dI)) (ci := 5) (v := .ref (ga 4)) (C := RX5) (T := TX5) (N := 30) hx hb hta inA_X5 hown hK hP 0 rfl rfl 10 (by decide) (hta _ aw_521) (fun _ h9 => h9) rfl dX5_flush_44 ?_
          refine lv_iload hx hb dX5_flush_47 (lv_at hl 0 rfl) ?_
          refine va_iald hx hb hK hP 4 3 rfl rfl (vp_in_nI (by omega) (by omega)) dX5_flush_49 ?_
          rw [nI_clamp (show k9 < 2 ^ 31 by omega)]
          refine lv_aload_n hx hb dX5_flush_50 rfl (lv_at hl 2 rfl) ?_
          refine va_get (D := (dC, dI)) (ci := 5) (v := .int f1) (C := RX5) (T := TX5) (N := 30) hx hb hta inA_X5 hown hK hP 0 rfl rfl 4 (by decide) (hta _ aw_515) (fun _ h9 => h9) rfl dX5_flush_51 ?_
          refine lv_icmp_ne (tgt := 84) hx hb dX5_flush_54 (by decide) (fun c_54_14 => ?_) (fun c_54_14 => ?_)
          · refine lv_iinc (v := predI k9) (lv' := [(4, .int (predI k9)), (3, .int (nI c9)), (0, .ref (ga 0)), (1, .int p0), (2, .int p1)]) hx hb dX5_flush_84 hl (k := 0) rfl (predI_dec k9 rfl) (by decide) rfl (fun ls hl => ?_)
            refine lv_goto (tgt := 33) hx hb dX5_flush_87 (by decide) ?_
            exact ih c9 _ _ _ _ _ _ _ _ (by omega) hen1 hzx (by rewrite [hm, mFlL]; rewrite [if_pos (Or.inl ⟨c_40_8, c_54_14⟩)]; rfl) H locs hP hD hS ls (lv_sub hl [0, 1, 2, 3, 4] rfl)
          · refine lv_iload_n hx hb dX5_flush_57 rfl (lv_at hl 3 rfl) ?_
            refine lv_iconst (v := 2) hx hb dX5_flush_58 (by decide) ?_
            refine lv_icmp_ne (tgt := 75) hx hb dX5_flush_59 (by decide) (fun c_59_15 => ?_) (fun c_59_15 => ?_)
            · refine lv_aload_n hx hb dX5_flush_75 rfl (lv_at hl 2 rfl) ?_
              refine lv_iload hx hb dX5_flush_76 (lv_at hl 0 rfl) ?_
              have hFc : ∀ q, va_A (MWl ga gk (0 : Int32) L N mm f1 mr mh f8 en1 us eC1 eL1 eB1 eF1 eR1 eU1 eX1 f2 f3 f4 f5 f6 f7 f14 ff fa mn lg cm wa) H.size q → A q := cx_free hD hS hA
              refine va_callv (va_runV (As := [.int (nI k9)]) (rest := []) ⟨hx, hb, hml, hown, hta⟩ (c_X5_drop l dC dI ga gk (0 : Int32) L N mm f1 mr mh f8 en1 us eC1 eL1 eB1 eF1 eR1 eU1 eX1 f2 f3 f4 f5 f6 f7 f14 ff fa mn lg cm wa H.size k9 (by omega) (by omega) (by omega) hzx) (cwV 1 hta (gV aw_711 aw_713 aw_34 aw_43 aw_714) rfl rfl rfl (by decide +kernel) ⟨Nat.le_of_ble_eq_true rfl, Nat.le_of_ble_eq_true rfl⟩) (cx_preVQ hK hP hN (va_recv hK hP (ci := 5) (q0 := 0) rfl rfl) hD) rfl rfl hl.1 rfl (lv_room (Nat.le_of_ble_eq_true rfl)) dX5_flush_78 ⟨Nat.le_of_ble_eq_true rfl, Nat.le_of_ble_eq_true rfl⟩) hS (fun q _ h => hFc q h) hFc (fun u t9 H1 locs ht hvm hw_17 hB hz1 hk1 hS => ?_)
              obtain ⟨en_17, eC_17, eL_17, eB_17, eF_17, eR_17, eU_17, eX_17⟩ := u
              obtain ⟨hP, hK1, hD1⟩ := hB
              rw [ht] at hP
              have hD := hD1.weaken (fun _ _ _ h => hFc _ h)
              clear hFc hz1 hk1 hK1 hD1 ht hvm
              generalize H1 = H at hP hS ⊢
              have hP : va_P (dC, dI) vwCl (MWl ga gk (0 : Int32) L N mm f1 mr mh f8 en_17 us eC_17 eL_17 eB_17 eF_17 eR_17 eU_17 eX_17 f2 f3 f4 f5 f6 f7 f14 ff fa mn lg cm wa) H := hP
              have hD : va_D A (MWl ga gk (0 : Int32) L N mm f1 mr mh f8 en_17 us eC_17 eL_17 eB_17 eF_17 eR_17 eU_17 eX_17 f2 f3 f4 f5 f6 f7 f14 ff fa mn lg cm wa) := hD
              refine lv_iinc (v := nI (c9 + 1)) (lv' := [(3, .int (nI (c9 + 1))), (4, .int (nI k9)), (0, .ref (ga 0)), (1, .int p0), (2, .int p1)]) hx hb dX5_flush_81 hl (k := 1) rfl (cx_inc c9 1 rfl) (by decide) rfl (fun ls hl => ?_)
              refine lv_iinc (v := predI k9) (lv' := [(4, .int (predI k9)), (3, .int (nI (c9 + 1))), (0, .ref (ga 0)), (1, .int p0), (2, .int p1)]) hx hb dX5_flush_84 hl (k := 1) rfl (predI_dec k9 rfl) (by decide) rfl (fun ls hl => ?_)
              refine lv_goto (tgt := 33) hx hb dX5_flush_87 (by decide) ?_
              obtain ⟨he9, hz9⟩ := drop_ok hw_17 hzx
              exact ih (c9 + 1) _ _ _ _ _ _ _ _ (by omega) (by omega) hz9 (by rewrite [hm, mFlL]; rewrite [if_neg (show ¬ _ from fun q => q.elim (fun q => q.2 c_54_14) (fun q => c_59_15 q.1))]; show mFlL _ _ _ _ _ (mX5_drop en1 eC1 eL1 eB1 eF1 eR1 eU1 eX1 k9) = _; rewrite [← hw_17]; rfl) H locs hP hD hS ls (lv_sub hl [0, 1, 2, 3, 4] rfl)
            · refine lv_aload_n hx hb dX5_flush_62 rfl (lv_at hl 2 rfl) ?_
              refine lv_iload hx hb dX5_flush_63 (lv_at hl 0 rfl) ?_
              refine lv_iload_n hx hb dX5_flush_65 rfl (lv_at hl 4 rfl) ?_
              refine cx_callSi (va_runV (As := [.int (nI k9), .int p1]) (rest := []) ⟨hx, hb, hml, hown, hta⟩ (c_X5_fits l dC dI ga gk (0 : Int32) L N mm f1 mr mh f8 en1 us eC1 eL1 eB1 eF1 eR1 eU1 eX1 f2 f3 f4 f5 f6 f7 f14 ff fa mn lg cm wa k9 p1 (by omega)) (cwV 2 hta (gV aw_651 aw_653 aw_23 aw_43 aw_654) rfl rfl rfl (by decide +kernel) ⟨Nat.le_of_ble_eq_true rfl, Nat.le_of_ble_eq_true rfl⟩) (cx_preVS hK hP hN (va_recv hK hP (ci := 5) (q0 := 0) rfl rfl)) rfl rfl hl.1 rfl (lv_room (Nat.le_of_ble_eq_true rfl)) dX5_flush_66 ⟨Nat.le_of_ble_eq_true rfl, Nat.le_of_ble_eq_true rfl⟩) (fun r hw_18 => ?_)
              subst hw_18
              refine lv_if_ne (tgt := 75) hx hb dX5_flush_69 (by decide) (fun c_69_18 => ?_) (fun c_69_18 => ?_)
              · refine lv_aload_n hx hb dX5_flush_75 rfl (lv_at hl 2 rfl) ?_
                refine lv_iload hx hb dX5_flush_76 (lv_at hl 0 rfl) ?_
                have hFc : ∀ q, va_A (MWl ga gk (0 : Int32) L N mm f1 mr mh f8 en1 us eC1 eL1 eB1 eF1 eR1 eU1 eX1 f2 f3 f4 f5 f6 f7 f14 ff fa mn lg cm wa) H.size q → A q := cx_free hD hS hA
                refine va_callv (va_runV (As := [.int (nI k9)]) (rest := []) ⟨hx, hb, hml, hown, hta⟩ (c_X5_drop l dC dI ga gk (0 : Int32) L N mm f1 mr mh f8 en1 us eC1 eL1 eB1 eF1 eR1 eU1 eX1 f2 f3 f4 f5 f6 f7 f14 ff fa mn lg cm wa H.size k9 (by omega) (by omega) (by omega) hzx) (cwV 1 hta (gV aw_711 aw_713 aw_34 aw_43 aw_714) rfl rfl rfl (by decide +kernel) ⟨Nat.le_of_ble_eq_true rfl, Nat.le_of_ble_eq_true rfl⟩) (cx_preVQ hK hP hN (va_recv hK hP (ci := 5) (q0 := 0) rfl rfl) hD) rfl rfl hl.1 rfl (lv_room (Nat.le_of_ble_eq_true rfl)) dX5_flush_78 ⟨Nat.le_of_ble_eq_true rfl, Nat.le_of_ble_eq_true rfl⟩) hS (fun q _ h => hFc q h) hFc (fun u t9 H1 locs ht hvm hw_20 hB hz1 hk1 hS => ?_)
                obtain ⟨en_20, eC_20, eL_20, eB_20, eF_20, eR_20, eU_20, eX_20⟩ := u
                obtain ⟨hP, hK1, hD1⟩ := hB
                rw [ht] at hP
                have hD := hD1.weaken (fun _ _ _ h => hFc _ h)
                clear hFc hz1 hk1 hK1 hD1 ht hvm
                generalize H1 = H at hP hS ⊢
                have hP : va_P (dC, dI) vwCl (MWl ga gk (0 : Int32) L N mm f1 mr mh f8 en_20 us eC_20 eL_20 eB_20 eF_20 eR_20 eU_20 eX_20 f2 f3 f4 f5 f6 f7 f14 ff fa mn lg cm wa) H := hP
                have hD : va_D A (MWl ga gk (0 : Int32) L N mm f1 mr mh f8 en_20 us eC_20 eL_20 eB_20 eF_20 eR_20 eU_20 eX_20 f2 f3 f4 f5 f6 f7 f14 ff fa mn lg cm wa) := hD
                refine lv_iinc (v := nI (c9 + 1)) (lv' := [(3, .int (nI (c9 + 1))), (4, .int (nI k9)), (0, .ref (ga 0)), (1, .int p0), (2, .int p1)]) hx hb dX5_flush_81 hl (k := 1) rfl (cx_inc c9 1 rfl) (by decide) rfl (fun ls hl => ?_)
                refine lv_iinc (v := predI k9) (lv' := [(4, .int (predI k9)), (3, .int (nI (c9 + 1))), (0, .ref (ga 0)), (1, .int p0), (2, .int p1)]) hx hb dX5_flush_84 hl (k := 1) rfl (predI_dec k9 rfl) (by decide) rfl (fun ls hl => ?_)
                refine lv_goto (tgt := 33) hx hb dX5_flush_87 (by decide) ?_
                obtain ⟨he9, hz9⟩ := drop_ok hw_20 hzx
                exact ih (c9 + 1) _ _ _ _ _ _ _ _ (by omega) (by omega) hz9 (by rewrite [hm, mFlL]; rewrite [if_neg (show ¬ _ from fun q => q.elim (fun q => q.2 c_54_14) (fun q => c_69_18 q.2))]; show mFlL _ _ _ _ _ (mX5_drop en1 eC1 eL1 eB1 eF1 eR1 eU1 eX1 k9) = _; rewrite [← hw_20]; rfl) H locs hP hD hS ls (lv_sub hl [0, 1, 2, 3, 4] rfl)
              · refine lv_goto (tgt := 84) hx hb dX5_flush_72 (by decide) ?_
                refine lv_iinc (v := predI k9) (lv' := [(4, .int (predI k9)), (3, .int (nI c9)), (0, .ref (ga 0)), (1, .int p0), (2, .int p1)]) hx hb dX5_flush_84 hl (k := 0) rfl (predI_dec k9 rfl) (by decide) rfl (fun ls hl => ?_)
                refine lv_goto (tgt := 33) hx hb dX5_flush_87 (by decide) ?_
                exact ih c9 _ _ _ _ _ _ _ _ (by omega) hen1 hzx (by rewrite [hm, mFlL]; rewrite [if_pos (Or.inr ⟨c_59_15, c_69_18⟩)]; rfl) H locs hP hD hS ls (lv_sub hl [0, 1, 2, 3, 4] rfl)
  refine lv_aload_n hx hb dX5_flush_0 rfl (lv_at hl 0 rfl) ?_
  refine lv_iload_n hx hb dX5_flush_1 rfl (lv_at hl 1 rfl) ?_
  refine lv_iconst (v := 3) hx hb dX5_flush_2 (by decide) ?_
  refine cx_callSi (va_runS (As := [.int p0, .int (3 : Int32)]) (rest := [.ref (ga 0)]) ⟨hx, hb, hml, hown, hta⟩ (c_X5_isOf l p0 (3 : Int32)) (va_cwS 2 hta (gS aw_611 aw_612 aw_43 aw_613) rfl rfl rfl (by decide +kernel) ⟨Nat.le_of_ble_eq_true rfl, Nat.le_of_ble_eq_true rfl⟩) cx_pre0 rfl rfl hl.1 rfl (lv_room (Nat.le_of_ble_eq_true rfl)) dX5_flush_3 ⟨Nat.le_of_ble_eq_true rfl, Nat.le_of_ble_eq_true rfl⟩) (fun r hw_1 => ?_)
  subst hw_1
  refine lv_if_ne (tgt := 13) hx hb dX5_flush_6 (by decide) (fun c_6_1 => ?_) (fun c_6_1 => ?_)
  · refine lv_iconst (v := 0) hx hb dX5_flush_13 (by decide) ?_
    refine lv_iconst (v := 0) hx hb dX5_flush_14 (by decide) ?_
    have hFc : ∀ q, va_A (MWl ga gk th L N mm f1 mr mh f8 en us eC eL eB eF eR eU eX f2 f3 f4 f5 f6 f7 f14 ff fa mn lg cm wa) s.heap.size q → A q := cx_free hD hS hA
    refine va_calli (va_runV (As := [.int (0 : Int32), .int (0 : Int32)]) (rest := []) ⟨hx, hb, hml, hown, hta⟩ (c_X5_throwing l dC dI ga gk th L N mm f1 mr mh f8 en us eC eL eB eF eR eU eX f2 f3 f4 f5 f6 f7 f14 ff fa mn lg cm wa s.heap.size (0 : Int32) (0 : Int32)) (cwV 2 hta (gV aw_614 aw_616 aw_20 aw_43 aw_617) rfl rfl rfl (by decide +kernel) ⟨Nat.le_of_ble_eq_true rfl, Nat.le_of_ble_eq_true rfl⟩) (cx_preVQ hK hP hN (va_recv hK hP (ci := 5) (q0 := 0) rfl rfl) hD) rfl rfl hl.1 rfl (lv_room (Nat.le_of_ble_eq_true rfl)) dX5_flush_15 ⟨Nat.le_of_ble_eq_true rfl, Nat.le_of_ble_eq_true rfl⟩) hS (fun q _ h => hFc q h) hFc (fun r_3 u t9 H1 locs ht hvm hw_3 hB hz1 hk1 hS => ?_)
    obtain ⟨th_3, rfl⟩ : ∃ z, z = u := ⟨_, rfl⟩
    obtain ⟨hP, hK1, hD1⟩ := hB
    rw [ht] at hP
    have hD := hD1.weaken (fun _ _ _ h => hFc _ h)
    clear hFc hz1 hk1 hK1 hD1 ht hvm
    generalize H1 = H at hP hS ⊢
    have hP : va_P (dC, dI) vwCl (MWl ga gk th_3 L N mm f1 mr mh f8 en us eC eL eB eF eR eU eX f2 f3 f4 f5 f6 f7 f14 ff fa mn lg cm wa) H := hP
    have hD : va_D A (MWl ga gk th_3 L N mm f1 mr mh f8 en us eC eL eB eF eR eU eX f2 f3 f4 f5 f6 f7 f14 ff fa mn lg cm wa) := hD
    obtain ⟨rfl, rfl⟩ : r_3 = (0 : Int32) ∧ th_3 = (0 : Int32) := by
      have h9 := hw_3
      unfold mX5_throwing at h9
      cases h9
      exact ⟨rfl, rfl⟩
    refine lv_if_eq (tgt := 23) hx hb dX5_flush_18 (by decide) (fun c_18_3 => ?_) (fun c_18_3 => ?_)
    · refine lv_iconst (v := 0) hx hb dX5_flush_23 (by decide) ?_
      refine lv_istore_n (lv' := [(3, .int (0 : Int32)), (0, .ref (ga 0)), (1, .int p0), (2, .int p1)]) hx hb dX5_flush_24 rfl hl (by decide) rfl (fun ls hl => ?_)
      refine lv_aload_n hx hb dX5_flush_25 rfl (lv_at hl 1 rfl) ?_
      refine va_get (D := (dC, dI)) (ci := 5) (v := .int (nI en)) (C := RX5) (T := TX5) (N := 30) hx hb hta inA_X5 hown hK hP 0 rfl rfl 8 (by decide) (hta _ aw_519) (fun _ h9 => h9) rfl dX5_flush_26 ?_
      refine lv_iconst (v := 1) hx hb dX5_flush_29 (by decide) ?_
      refine lv_isub hx hb dX5_flush_30 ?_
      rw [show (nI en) - (1 : Int32) = predI en from predI_eq en]
      refine lv_istore (lv' := [(4, .int (predI en)), (3, .int (0 : Int32)), (0, .ref (ga 0)), (1, .int p0), (2, .int p1)]) hx hb dX5_flush_31 hl (by decide) rfl (fun ls hl => ?_)
      exact loop c_6_1 en 0 _ _ _ _ _ _ _ _ (Nat.le_refl en) hen hzx0 rfl H locs hP hD hS ls (lv_sub hl [0, 1, 2, 3, 4] rfl)
    · exact absurd (by decide) c_18_3
  · refine lv_iconst (v := 1) hx hb dX5_flush_9 (by decide) ?_
    refine lv_goto (tgt := 14) hx hb dX5_flush_10 (by decide) ?_
    refine lv_iconst (v := 0) hx hb dX5_flush_14 (by decide) ?_
    have hFc : ∀ q, va_A (MWl ga gk th L N mm f1 mr mh f8 en us eC eL eB eF eR eU eX f2 f3 f4 f5 f6 f7 f14 ff fa mn lg cm wa) s.heap.size q → A q := cx_free hD hS hA
    refine va_calli (va_runV (As := [.int (1 : Int32), .int (0 : Int32)]) (rest := []) ⟨hx, hb, hml, hown, hta⟩ (c_X5_throwing l dC dI ga gk th L N mm f1 mr mh f8 en us eC eL eB eF eR eU eX f2 f3 f4 f5 f6 f7 f14 ff fa mn lg cm wa s.heap.size (1 : Int32) (0 : Int32)) (cwV 2 hta (gV aw_614 aw_616 aw_20 aw_43 aw_617) rfl rfl rfl (by decide +kernel) ⟨Nat.le_of_ble_eq_true rfl, Nat.le_of_ble_eq_true rfl⟩) (cx_preVQ hK hP hN (va_recv hK hP (ci := 5) (q0 := 0) rfl rfl) hD) rfl rfl hl.1 rfl (lv_room (Nat.le_of_ble_eq_true rfl)) dX5_flush_15 ⟨Nat.le_of_ble_eq_true rfl, Nat.le_of_ble_eq_true rfl⟩) hS (fun q _ h => hFc q h) hFc (fun r_5 u t9 H1 locs ht hvm hw_5 hB hz1 hk1 hS => ?_)
    obtain ⟨th_5, rfl⟩ : ∃ z, z = u := ⟨_, rfl⟩
    obtain ⟨hP, hK1, hD1⟩ := hB
    rw [ht] at hP
    have hD := hD1.weaken (fun _ _ _ h => hFc _ h)
    clear hFc hz1 hk1 hK1 hD1 ht hvm
    generalize H1 = H at hP hS ⊢
    have hP : va_P (dC, dI) vwCl (MWl ga gk th_5 L N mm f1 mr mh f8 en us eC eL eB eF eR eU eX f2 f3 f4 f5 f6 f7 f14 ff fa mn lg cm wa) H := hP
    have hD : va_D A (MWl ga gk th_5 L N mm f1 mr mh f8 en us eC eL eB eF eR eU eX f2 f3 f4 f5 f6 f7 f14 ff fa mn lg cm wa) := hD
    obtain ⟨rfl, rfl⟩ : r_5 = (1 : Int32) ∧ th_5 = (1 : Int32) := by
      have h9 := hw_5
      unfold mX5_throwing at h9
      cases h9
      exact ⟨rfl, rfl⟩
    refine lv_if_eq (tgt := 23) hx hb dX5_flush_18 (by decide) (fun c_18_5 => ?_) (fun c_18_5 => ?_)
    · exact absurd c_18_5 (by decide)
    · refine lv_iconst (v := 0) hx hb dX5_flush_21 (by decide) ?_
      exact W.iret (v := (0 : Int32)) hx hb hr (fun t ht hW => ⟨⟨(0 : Int32), ((1 : Int32), en, eC, eL, eB, eF, eR, eU, eX), rfl, (by unfold mFl; rw [if_pos c_6_1]), by rw [ht]; exact hP, va_K.moved hW.alike hK, hD⟩, hS.F ht⟩) hS.2.2 dX5_flush_22
