/-- PageRowsModel.table -/
def mX5_table (mm : Nat → Int64) (p0 : Int32) (p1 : Int64) : Int64 × Int32 × (Nat → Int64) :=
  if (mX5_isOf p0 (4096 : Int32)) = 0 then
    match mX5_throwing (1 : Int32) (0 : Int32) with
    | (r_5, th_5) =>
      ((0 : Int64), (1 : Int32), mm)
  else
    match mX5_throwing (0 : Int32) (0 : Int32) with
    | (r_3, th_3) =>
      (mm p0.toNatClampNeg, (0 : Int32), vp_updL mm p0.toNatClampNeg p1)
set_option maxHeartbeats 4000000 in
set_option maxRecDepth 100000 in
theorem c_X5_table (l : Launch) (dC : Nat → ClassId) (dI : Nat → Nat → Nat) (ga : Nat → Nat) (gk : Nat → ClassId) (th : Int32) (L : Nat) (N : Nat) (mm : Nat → Int64) (f1 : Int32) (mr : Nat → Int32) (mh : Nat → Int32) (f8 : Int32) (en : Nat) (us : Nat) (eC : Nat → Int32) (eL : Nat → Int32) (eB : Nat → Int32) (eF : Nat → Int32) (eR : Nat → Int32) (eU : Nat → Int32) (eX : Nat → Int32) (f2 : Int32) (f3 : Int32) (f4 : Int32) (f5 : Int32) (f6 : Int32) (f7 : Int32) (f14 : Int32) (ff : Int32) (fa : Int32) (mn : Nat) (lg : Int32) (cm : Int32) (wa : Nat → Int32)  (sz : Nat) (p0 : Int32) (p1 : Int64)  : Met l yX5_table (wX5_table :: AW) ({ frames := 1, cells := 0, slots := 0, locals := 22 }) (va_Pc [.ref (ga 0), .int p0, .long p1] (CPrQ dC dI (MWl ga gk th L N mm f1 mr mh f8 en us eC eL eB eF eR eU eX f2 f3 f4 f5 f6 f7 f14 ff fa mn lg cm wa) [(gk 0, .long), (gk 1, .int), (gk 2, .int), (gk 3, .int), (gk 4, .int), (gk 5, .int), (gk 6, .int), (gk 7, .int), (gk 8, .int), (gk 9, .boolean), (gk 10, .int)] sz)) (va_Ql (fun (r : Int64) (u : Int32 × (Nat → Int64)) => (r, u) = mX5_table mm p0 p1) (fun (u : Int32 × (Nat → Int64)) (t : State) => match u with | (th', mm') => va_P (dC, dI) vwCl (MWl ga gk th' L N mm' f1 mr mh f8 en us eC eL eB eF eR eU eX f2 f3 f4 f5 f6 f7 f14 ff fa mn lg cm wa) t.heap ∧ va_K (dC, dI) vwCl [(gk 0, .long), (gk 1, .int), (gk 2, .int), (gk 3, .int), (gk 4, .int), (gk 5, .int), (gk 6, .int), (gk 7, .int), (gk 8, .int), (gk 9, .boolean), (gk 10, .int)] t ∧ va_D (va_A (MWl ga gk th L N mm f1 mr mh f8 en us eC eL eB eF eR eU eX f2 f3 f4 f5 f6 f7 f14 ff fa mn lg cm wa) sz) (MWl ga gk th' L N mm' f1 mr mh f8 en us eC eL eB eF eR eU eX f2 f3 f4 f5 f6 f7 f14 ff fa mn lg cm wa)) (va_A (MWl ga gk th L N mm f1 mr mh f8 en us eC eL eB eF eR eU eX f2 f3 f4 f5 f6 f7 f14 ff fa mn lg cm wa) sz)) 0 0 (va_A (MWl ga gk th L N mm f1 mr mh f8 en us eC eL eB eF eR eU eX f2 f3 f4 f5 f6 f7 f14 ff fa mn lg cm wa) sz) := by
  refine cx_of (cc := cX5_table) (maxL := 6) (ret := some .long) (by decide) rfl (Nat.le_of_ble_eq_true rfl) ?_
  intro p e s m below meth c ls hx hb hr hts hown hlocks hml hnm hl hB
  have hta : ∀ w ∈ AW, w.before [.ref (ga 0), .int p0, .long p1].toArray s = true := fun w h => hts w (List.mem_cons_of_mem _ h)
  have hl : lv_has ls 6 [(0, .ref (ga 0)), (1, .int p0), (2, .long p1)] := hl
  have hown : s.vm.findClass RX5 = some m.cls := hown
  obtain ⟨rfl, ⟨hP, hK, hN⟩, hD0⟩ := hB
  have hD := hD0.self (sz := s.heap.size)
  generalize hAe : va_A (MWl ga gk th L N mm f1 mr mh f8 en us eC eL eB eF eR eU eX f2 f3 f4 f5 f6 f7 f14 ff fa mn lg cm wa) s.heap.size = A at hD ⊢
  have hA : ∀ q : Nat, s.heap.size ≤ q → A q := fun q h => by rw [← hAe]; exact Or.inr h
  have hS : va_S A s.heap s.heap [] := va_S.rf
  refine lv_aload_n hx hb dX5_table_0 rfl (lv_at hl 0 rfl) ?_
  refine lv_iload_n hx hb dX5_table_1 rfl (lv_at hl 1 rfl) ?_
  refine lv_sipush (v := 4096) hx hb dX5_table_2 (by decide) ?_
  refine cx_callSi (va_runS (As := [.int p0, .int (4096 : Int32)]) (rest := [.ref (ga 0)]) ⟨hx, hb, hml, hown, hta⟩ (c_X5_isOf l p0 (4096 : Int32)) (va_cwS 2 hta (gS aw_611 aw_612 aw_43 aw_613) rfl rfl rfl (by decide +kernel) ⟨Nat.le_of_ble_eq_true rfl, Nat.le_of_ble_eq_true rfl⟩) cx_pre0 rfl rfl hl.1 rfl (lv_room (Nat.le_of_ble_eq_true rfl)) dX5_table_5 ⟨Nat.le_of_ble_eq_true rfl, Nat.le_of_ble_eq_true rfl⟩) (fun r hw_1 => ?_)
  subst hw_1
  refine lv_if_ne (tgt := 15) hx hb dX5_table_8 (by decide) (fun c_8_1 => ?_) (fun c_8_1 => ?_)
  · refine lv_iconst (v := 0) hx hb dX5_table_15 (by decide) ?_
    refine lv_iconst (v := 0) hx hb dX5_table_16 (by decide) ?_
    have hFc : ∀ q, va_A (MWl ga gk th L N mm f1 mr mh f8 en us eC eL eB eF eR eU eX f2 f3 f4 f5 f6 f7 f14 ff fa mn lg cm wa) s.heap.size q → A q := cx_free hD hS hA
    refine va_calli (va_runV (As := [.int (0 : Int32), .int (0 : Int32)]) (rest := []) ⟨hx, hb, hml, hown, hta⟩ (c_X5_throwing l dC dI ga gk th L N mm f1 mr mh f8 en us eC eL eB eF eR eU eX f2 f3 f4 f5 f6 f7 f14 ff fa mn lg cm wa s.heap.size (0 : Int32) (0 : Int32)) (cwV 2 hta (gV aw_614 aw_616 aw_20 aw_43 aw_617) rfl rfl rfl (by decide +kernel) ⟨Nat.le_of_ble_eq_true rfl, Nat.le_of_ble_eq_true rfl⟩) (cx_preVQ hK hP hN (va_recv hK hP (ci := 5) (q0 := 0) rfl rfl) hD) rfl rfl hl.1 rfl (lv_room (Nat.le_of_ble_eq_true rfl)) dX5_table_17 ⟨Nat.le_of_ble_eq_true rfl, Nat.le_of_ble_eq_true rfl⟩) hS (fun q _ h => hFc q h) hFc (fun r_3 u t9 H1 locs ht hvm hw_3 hB hz1 hk1 hS => ?_)
    obtain ⟨th_3, rfl⟩ : ∃ z, z = u := ⟨_, rfl⟩
    obtain ⟨hP, hK1, hD1⟩ := hB
    rw [ht] at hP
    have hD := hD1.weaken (fun _ _ _ h => hFc _ h)
    clear hFc hz1 hk1 hK1 hD1 ht hvm
    generalize H1 = H at hP hS ⊢
    have hP : va_P (dC, dI) vwCl (MWl ga gk th_3 L N mm f1 mr mh f8 en us eC eL eB eF eR eU eX f2 f3 f4 f5 f6 f7 f14 ff fa mn lg cm wa) H := hP
    have hD : va_D A (MWl ga gk th_3 L N mm f1 mr mh f8 en us eC eL eB eF eR eU eX f2 f3 f4 f5 f6 f7 f14 ff fa mn lg cm wa) := hD
    obtain ⟨rfl, rfl⟩ : r_3 = (0 : Int32) ∧ th_3 = (0 : Int32) := by
      have h9 := hw_3
      unfold mX5_throwing at h9
      cases h9
      exact ⟨rfl, rfl⟩
    refine lv_if_eq (tgt := 25) hx hb dX5_table_20 (by decide) (fun c_20_3 => ?_) (fun c_20_3 => ?_)
    · refine lv_aload_n hx hb dX5_table_25 rfl (lv_at hl 0 rfl) ?_
      refine va_get (D := (dC, dI)) (ci := 5) (v := .ref (ga 1)) (C := RX5) (T := TX5) (N := 30) hx hb hta inA_X5 hown hK hP 0 rfl rfl 3 (by decide) (hta _ aw_514) (fun _ h9 => h9) rfl dX5_table_26 ?_
      refine lv_iload_n hx hb dX5_table_29 rfl (lv_at hl 1 rfl) ?_
      refine va_lald hx hb hK hP 1 0 rfl rfl (of_in c_8_1 rfl) dX5_table_30 ?_
      refine lv_lstore (lv' := [(4, .long (mm p0.toNatClampNeg)), (0, .ref (ga 0)), (1, .int p0), (2, .long p1)]) hx hb dX5_table_31 hl (by decide) rfl (fun ls hl => ?_)
      refine lv_aload_n hx hb dX5_table_33 rfl (lv_at hl 1 rfl) ?_
      refine va_get (D := (dC, dI)) (ci := 5) (v := .ref (ga 1)) (C := RX5) (T := TX5) (N := 30) hx hb hta inA_X5 hown hK hP 0 rfl rfl 3 (by decide) (hta _ aw_514) (fun _ h9 => h9) rfl dX5_table_34 ?_
      refine lv_iload_n hx hb dX5_table_37 rfl (lv_at hl 2 rfl) ?_
      refine lv_lload_n hx hb dX5_table_38 rfl (lv_at hl 3 rfl) ?_
      refine va_last hx hb hK hP hD hS 1 0 rfl rfl (of_in c_8_1 rfl) dX5_table_39 (fun H locs hP hD hS => ?_)
      have hP : va_P (dC, dI) vwCl (MWl ga gk (0 : Int32) L N (vp_updL mm p0.toNatClampNeg p1) f1 mr mh f8 en us eC eL eB eF eR eU eX f2 f3 f4 f5 f6 f7 f14 ff fa mn lg cm wa) H := hP
      have hD : va_D A (MWl ga gk (0 : Int32) L N (vp_updL mm p0.toNatClampNeg p1) f1 mr mh f8 en us eC eL eB eF eR eU eX f2 f3 f4 f5 f6 f7 f14 ff fa mn lg cm wa) := hD
      refine lv_lload hx hb dX5_table_40 (lv_at hl 0 rfl) ?_
      exact W.lret (v := mm p0.toNatClampNeg) hx hb hr (fun t ht hW => ⟨⟨mm p0.toNatClampNeg, ((0 : Int32), vp_updL mm p0.toNatClampNeg p1), rfl, (by unfold mX5_table; rewrite [if_neg c_8_1]; rewrite [← hw_3]; (try dsimp only); (first | done | rfl)), by rw [ht]; exact hP, va_K.moved hW.alike hK, hD⟩, hS.F ht⟩) hS.2.2 dX5_table_42
    · exact absurd (by decide) c_20_3
  · refine lv_iconst (v := 1) hx hb dX5_table_11 (by decide) ?_
    refine lv_goto (tgt := 16) hx hb dX5_table_12 (by decide) ?_
    refine lv_iconst (v := 0) hx hb dX5_table_16 (by decide) ?_
    have hFc : ∀ q, va_A (MWl ga gk th L N mm f1 mr mh f8 en us eC eL eB eF eR eU eX f2 f3 f4 f5 f6 f7 f14 ff fa mn lg cm wa) s.heap.size q → A q := cx_free hD hS hA
    refine va_calli (va_runV (As := [.int (1 : Int32), .int (0 : Int32)]) (rest := []) ⟨hx, hb, hml, hown, hta⟩ (c_X5_throwing l dC dI ga gk th L N mm f1 mr mh f8 en us eC eL eB eF eR eU eX f2 f3 f4 f5 f6 f7 f14 ff fa mn lg cm wa s.heap.size (1 : Int32) (0 : Int32)) (cwV 2 hta (gV aw_614 aw_616 aw_20 aw_43 aw_617) rfl rfl rfl (by decide +kernel) ⟨Nat.le_of_ble_eq_true rfl, Nat.le_of_ble_eq_true rfl⟩) (cx_preVQ hK hP hN (va_recv hK hP (ci := 5) (q0 := 0) rfl rfl) hD) rfl rfl hl.1 rfl (lv_room (Nat.le_of_ble_eq_true rfl)) dX5_table_17 ⟨Nat.le_of_ble_eq_true rfl, Nat.le_of_ble_eq_true rfl⟩) hS (fun q _ h => hFc q h) hFc (fun r_5 u t9 H1 locs ht hvm hw_5 hB hz1 hk1 hS => ?_)
    obtain ⟨th_5, rfl⟩ : ∃ z, z = u := ⟨_, rfl⟩
    obtain ⟨hP, hK1, hD1⟩ := hB
    rw [ht] at hP
    have hD := hD1.weaken (fun _ _ _ h => hFc _ h)
    clear hFc hz1 hk1 hK1 hD1 ht hvm
    generalize H1 = H at hP hS ⊢
    have hP : va_P (dC, dI) vwCl (MWl ga gk th_5 L N mm f1 mr mh f8 en us eC eL eB eF eR eU eX f2 f3 f4 f5 f6 f7 f14 ff fa mn lg cm wa) H := hP
    have hD : va_D A (MWl ga gk th_5 L N mm f1 mr mh f8 en us eC eL eB eF eR eU eX f2 f3 f4 f5 f6 f7 f14 ff fa mn lg cm wa) := hD
    obtain ⟨rfl, rfl⟩ : r_5 = (1 : Int32) ∧ th_5 = (1 : Int32) := by
      have h9 := hw_5
      unfold mX5_throwing at h9
      cases h9
      exact ⟨rfl, rfl⟩
    refine lv_if_eq (tgt := 25) hx hb dX5_table_20 (by decide) (fun c_20_5 => ?_) (fun c_20_5 => ?_)
    · exact absurd c_20_5 (by decide)
    · refine lv_lconst (v := 0) hx hb dX5_table_23 (by decide) ?_
      exact W.lret (v := (0 : Int64)) hx hb hr (fun t ht hW => ⟨⟨(0 : Int64), ((1 : Int32), mm), rfl, (by unfold mX5_table; rewrite [if_pos c_8_1]; rewrite [← hw_5]; (try dsimp only); (first | done | rfl)), by rw [ht]; exact hP, va_K.moved hW.alike hK, hD⟩, hS.F ht⟩) hS.2.2 dX5_table_24
/-- PageRowsModel.word -/
def mX5_word (mm : Nat → Int64) (p0 : Int32) : Int64 × Int32 :=
  if (mX5_isOf p0 (4096 : Int32)) = 0 then
    match mX5_throwing (1 : Int32) (0 : Int32) with
    | (r_5, th_5) =>
      ((0 : Int64), (1 : Int32))
  else
    match mX5_throwing (0 : Int32) (0 : Int32) with
    | (r_3, th_3) =>
      (mm p0.toNatClampNeg, (0 : Int32))
set_option maxHeartbeats 4000000 in
set_option maxRecDepth 100000 in
theorem c_X5_word (l : Launch) (dC : Nat → ClassId) (dI : Nat → Nat → Nat) (ga : Nat → Nat) (gk : Nat → ClassId) (th : Int32) (L : Nat) (N : Nat) (mm : Nat → Int64) (f1 : Int32) (mr : Nat → Int32) (mh : Nat → Int32) (f8 : Int32) (en : Nat) (us : Nat) (eC : Nat → Int32) (eL : Nat → Int32) (eB : Nat → Int32) (eF : Nat → Int32) (eR : Nat → Int32) (eU : Nat → Int32) (eX : Nat → Int32) (f2 : Int32) (f3 : Int32) (f4 : Int32) (f5 : Int32) (f6 : Int32) (f7 : Int32) (f14 : Int32) (ff : Int32) (fa : Int32) (mn : Nat) (lg : Int32) (cm : Int32) (wa : Nat → Int32)  (sz : Nat) (p0 : Int32)  : Met l yX5_word (wX5_word :: AW) ({ frames := 1, cells := 0, slots := 0, locals := 22 }) (va_Pc [.ref (ga 0), .int p0] (CPrQ dC dI (MWl ga gk th L N mm f1 mr mh f8 en us eC eL eB eF eR eU eX f2 f3 f4 f5 f6 f7 f14 ff fa mn lg cm wa) [(gk 0, .long), (gk 1, .int), (gk 2, .int), (gk 3, .int), (gk 4, .int), (gk 5, .int), (gk 6, .int), (gk 7, .int), (gk 8, .int), (gk 9, .boolean), (gk 10, .int)] sz)) (va_Ql (fun (r : Int64) (u : Int32) => (r, u) = mX5_word mm p0) (fun (u : Int32) (t : State) => match u with | th' => va_P (dC, dI) vwCl (MWl ga gk th' L N mm f1 mr mh f8 en us eC eL eB eF eR eU eX f2 f3 f4 f5 f6 f7 f14 ff fa mn lg cm wa) t.heap ∧ va_K (dC, dI) vwCl [(gk 0, .long), (gk 1, .int), (gk 2, .int), (gk 3, .int), (gk 4, .int), (gk 5, .int), (gk 6, .int), (gk 7, .int), (gk 8, .int), (gk 9, .boolean), (gk 10, .int)] t ∧ va_D (va_A (MWl ga gk th L N mm f1 mr mh f8 en us eC eL eB eF eR eU eX f2 f3 f4 f5 f6 f7 f14 ff fa mn lg cm wa) sz) (MWl ga gk th' L N mm f1 mr mh f8 en us eC eL eB eF eR eU eX f2 f3 f4 f5 f6 f7 f14 ff fa mn lg cm wa)) (va_A (MWl ga gk th L N mm f1 mr mh f8 en us eC eL eB eF eR eU eX f2 f3 f4 f5 f6 f7 f14 ff fa mn lg cm wa) sz)) 0 0 (va_A (MWl ga gk th L N mm f1 mr mh f8 en us eC eL eB eF eR eU eX f2 f3 f4 f5 f6 f7 f14 ff fa mn lg cm wa) sz) := by
  refine cx_of (cc := cX5_word) (maxL := 2) (ret := some .long) (by decide) rfl (Nat.le_of_ble_eq_true rfl) ?_
  intro p e s m below meth c ls hx hb hr hts hown hlocks hml hnm hl hB
  have hta : ∀ w ∈ AW, w.before [.ref (ga 0), .int p0].toArray s = true := fun w h => hts w (List.mem_cons_of_mem _ h)
  have hl : lv_has ls 2 [(0, .ref (ga 0)), (1, .int p0)] := hl
  have hown : s.vm.findClass RX5 = some m.cls := hown
  obtain ⟨rfl, ⟨hP, hK, hN⟩, hD0⟩ := hB
  have hD := hD0.self (sz := s.heap.size)
  generalize hAe : va_A (MWl ga gk th L N mm f1 mr mh f8 en us eC eL eB eF eR eU eX f2 f3 f4 f5 f6 f7 f14 ff fa mn lg cm wa) s.heap.size = A at hD ⊢
  have hA : ∀ q : Nat, s.heap.size ≤ q → A q := fun q h => by rw [← hAe]; exact Or.inr h
  have hS : va_S A s.heap s.heap [] := va_S.rf
  refine lv_aload_n hx hb dX5_word_0 rfl (lv_at hl 0 rfl) ?_
  refine lv_iload_n hx hb dX5_word_1 rfl (lv_at hl 1 rfl) ?_
  refine lv_sipush (v := 4096) hx hb dX5_word_2 (by decide) ?_
  refine cx_callSi (va_runS (As := [.int p0, .int (4096 : Int32)]) (rest := [.ref (ga 0)]) ⟨hx, hb, hml, hown, hta⟩ (c_X5_isOf l p0 (4096 : Int32)) (va_cwS 2 hta (gS aw_611 aw_612 aw_43 aw_613) rfl rfl rfl (by decide +kernel) ⟨Nat.le_of_ble_eq_true rfl, Nat.le_of_ble_eq_true rfl⟩) cx_pre0 rfl rfl hl.1 rfl (lv_room (Nat.le_of_ble_eq_true rfl)) dX5_word_5 ⟨Nat.le_of_ble_eq_true rfl, Nat.le_of_ble_eq_true rfl⟩) (fun r hw_1 => ?_)
  subst hw_1
  refine lv_if_ne (tgt := 15) hx hb dX5_word_8 (by decide) (fun c_8_1 => ?_) (fun c_8_1 => ?_)
  · refine lv_iconst (v := 0) hx hb dX5_word_15 (by decide) ?_
    refine lv_iconst (v := 0) hx hb dX5_word_16 (by decide) ?_
    have hFc : ∀ q, va_A (MWl ga gk th L N mm f1 mr mh f8 en us eC eL eB eF eR eU eX f2 f3 f4 f5 f6 f7 f14 ff fa mn lg cm wa) s.heap.size q → A q := cx_free hD hS hA
    refine va_calli (va_runV (As := [.int (0 : Int32), .int (0 : Int32)]) (rest := []) ⟨hx, hb, hml, hown, hta⟩ (c_X5_throwing l dC dI ga gk th L N mm f1 mr mh f8 en us eC eL eB eF eR eU eX f2 f3 f4 f5 f6 f7 f14 ff fa mn lg cm wa s.heap.size (0 : Int32) (0 : Int32)) (cwV 2 hta (gV aw_614 aw_616 aw_20 aw_43 aw_617) rfl rfl rfl (by decide +kernel) ⟨Nat.le_of_ble_eq_true rfl, Nat.le_of_ble_eq_true rfl⟩) (cx_preVQ hK hP hN (va_recv hK hP (ci := 5) (q0 := 0) rfl rfl) hD) rfl rfl hl.1 rfl (lv_room (Nat.le_of_ble_eq_true rfl)) dX5_word_17 ⟨Nat.le_of_ble_eq_true rfl, Nat.le_of_ble_eq_true rfl⟩) hS (fun q _ h => hFc q h) hFc (fun r_3 u t9 H1 locs ht hvm hw_3 hB hz1 hk1 hS => ?_)
    obtain ⟨th_3, rfl⟩ : ∃ z, z = u := ⟨_, rfl⟩
    obtain ⟨hP, hK1, hD1⟩ := hB
    rw [ht] at hP
    have hD := hD1.weaken (fun _ _ _ h => hFc _ h)
    clear hFc hz1 hk1 hK1 hD1 ht hvm
    generalize H1 = H at hP hS ⊢
    have hP : va_P (dC, dI) vwCl (MWl ga gk th_3 L N mm f1 mr mh f8 en us eC eL eB eF eR eU eX f2 f3 f4 f5 f6 f7 f14 ff fa mn lg cm wa) H := hP
    have hD : va_D A (MWl ga gk th_3 L N mm f1 mr mh f8 en us eC eL eB eF eR eU eX f2 f3 f4 f5 f6 f7 f14 ff fa mn lg cm wa) := hD
    obtain ⟨rfl, rfl⟩ : r_3 = (0 : Int32) ∧ th_3 = (0 : Int32) := by
      have h9 := hw_3
      unfold mX5_throwing at h9
      cases h9
      exact ⟨rfl, rfl⟩
    refine lv_if_eq (tgt := 27) hx hb dX5_word_20 (by decide) (fun c_20_3 => ?_) (fun c_20_3 => ?_)
    · refine lv_aload_n hx hb dX5_word_27 rfl (lv_at hl 0 rfl) ?_
      refine va_get (D := (dC, dI)) (ci := 5) (v := .ref (ga 1)) (C := RX5) (T := TX5) (N := 30) hx hb hta inA_X5 hown hK hP 0 rfl rfl 3 (by decide) (hta _ aw_514) (fun _ h9 => h9) rfl dX5_word_28 ?_
      refine lv_iload_n hx hb dX5_word_31 rfl (lv_at hl 1 rfl) ?_
      refine va_lald hx hb hK hP 1 0 rfl rfl (of_in c_8_1 rfl) dX5_word_32 ?_
      exact W.lret (v := mm p0.toNatClampNeg) hx hb hr (fun t ht hW => ⟨⟨mm p0.toNatClampNeg, (0 : Int32), rfl, (by unfold mX5_word; rewrite [if_neg c_8_1]; rewrite [← hw_3]; (try dsimp only); (first | done | rfl)), by rw [ht]; exact hP, va_K.moved hW.alike hK, hD⟩, hS.F ht⟩) hS.2.2 dX5_word_33
    · exact absurd (by decide) c_20_3
  · refine lv_iconst (v := 1) hx hb dX5_word_11 (by decide) ?_
    refine lv_goto (tgt := 16) hx hb dX5_word_12 (by decide) ?_
    refine lv_iconst (v := 0) hx hb dX5_word_16 (by decide) ?_
    have hFc : ∀ q, va_A (MWl ga gk th L N mm f1 mr mh f8 en us eC eL eB eF eR eU eX f2 f3 f4 f5 f6 f7 f14 ff fa mn lg cm wa) s.heap.size q → A q := cx_free hD hS hA
    refine va_calli (va_runV (As := [.int (1 : Int32), .int (0 : Int32)]) (rest := []) ⟨hx, hb, hml, hown, hta⟩ (c_X5_throwing l dC dI ga gk th L N mm f1 mr mh f8 en us eC eL eB eF eR eU eX f2 f3 f4 f5 f6 f7 f14 ff fa mn lg cm wa s.heap.size (1 : Int32) (0 : Int32)) (cwV 2 hta (gV aw_614 aw_616 aw_20 aw_43 aw_617) rfl rfl rfl (by decide +kernel) ⟨Nat.le_of_ble_eq_true rfl, Nat.le_of_ble_eq_true rfl⟩) (cx_preVQ hK hP hN (va_recv hK hP (ci := 5) (q0 := 0) rfl rfl) hD) rfl rfl hl.1 rfl (lv_room (Nat.le_of_ble_eq_true rfl)) dX5_word_17 ⟨Nat.le_of_ble_eq_true rfl, Nat.le_of_ble_eq_true rfl⟩) hS (fun q _ h => hFc q h) hFc (fun r_5 u t9 H1 locs ht hvm hw_5 hB hz1 hk1 hS => ?_)
    obtain ⟨th_5, rfl⟩ : ∃ z, z = u := ⟨_, rfl⟩
    obtain ⟨hP, hK1, hD1⟩ := hB
    rw [ht] at hP
    have hD := hD1.weaken (fun _ _ _ h => hFc _ h)
    clear hFc hz1 hk1 hK1 hD1 ht hvm
    generalize H1 = H at hP hS ⊢
    have hP : va_P (dC, dI) vwCl (MWl ga gk th_5 L N mm f1 mr mh f8 en us eC eL eB eF eR eU eX f2 f3 f4 f5 f6 f7 f14 ff fa mn lg cm wa) H := hP
    have hD : va_D A (MWl ga gk th_5 L N mm f1 mr mh f8 en us eC eL eB eF eR eU eX f2 f3 f4 f5 f6 f7 f14 ff fa mn lg cm wa) := hD
    obtain ⟨rfl, rfl⟩ : r_5 = (1 : Int32) ∧ th_5 = (1 : Int32) := by
      have h9 := hw_5
      unfold mX5_throwing at h9
      cases h9
      exact ⟨rfl, rfl⟩
    refine lv_if_eq (tgt := 27) hx hb dX5_word_20 (by decide) (fun c_20_5 => ?_) (fun c_20_5 => ?_)
    · exact absurd c_20_5 (by decide)
    · refine lv_lconst (v := 0) hx hb dX5_word_23 (by decide) ?_
      refine lv_goto (tgt := 33) hx hb dX5_word_24 (by decide) ?_
      exact W.lret (v := (0 : Int64)) hx hb hr (fun t ht hW => ⟨⟨(0 : Int64), (1 : Int32), rfl, (by unfold mX5_word; rewrite [if_pos c_8_1]; rewrite [← hw_5]; (try dsimp only); (first | done | rfl)), by rw [ht]; exact hP, va_K.moved hW.alike hK, hD⟩, hS.F ht⟩) hS.2.2 dX5_word_33
/-- PageRowsModel.context -/
def mX5_context (f1 : Int32) (p0 : Int32) : Int32 × Int32 × Int32 :=
  if (mX5_isOf p0 (4 : Int32)) = 0 then
    match mX5_throwing (1 : Int32) (0 : Int32) with
    | (r_5, th_5) =>
      ((0 : Int32), (1 : Int32), f1)
  else
    match mX5_throwing (0 : Int32) (0 : Int32) with
    | (r_3, th_3) =>
      (f1, (0 : Int32), p0)
set_option maxHeartbeats 4000000 in
set_option maxRecDepth 100000 in
theorem c_X5_context (l : Launch) (dC : Nat → ClassId) (dI : Nat → Nat → Nat) (ga : Nat → Nat) (gk : Nat → ClassId) (th : Int32) (L : Nat) (N : Nat) (mm : Nat → Int64) (f1 : Int32) (mr : Nat → Int32) (mh : Nat → Int32) (f8 : Int32) (en : Nat) (us : Nat) (eC : Nat → Int32) (eL : Nat → Int32) (eB : Nat → Int32) (eF : Nat → Int32) (eR : Nat → Int32) (eU : Nat → Int32) (eX : Nat → Int32) (f2 : Int32) (f3 : Int32) (f4 : Int32) (f5 : Int32) (f6 : Int32) (f7 : Int32) (f14 : Int32) (ff : Int32) (fa : Int32) (mn : Nat) (lg : Int32) (cm : Int32) (wa : Nat → Int32)  (sz : Nat) (p0 : Int32)  : Met l yX5_context (wX5_context :: AW) ({ frames := 1, cells := 0, slots := 0, locals := 22 }) (va_Pc [.ref (ga 0), .int p0] (CPrQ dC dI (MWl ga gk th L N mm f1 mr mh f8 en us eC eL eB eF eR eU eX f2 f3 f4 f5 f6 f7 f14 ff fa mn lg cm wa) [(gk 0, .long), (gk 1, .int), (gk 2, .int), (gk 3, .int), (gk 4, .int), (gk 5, .int), (gk 6, .int), (gk 7, .int), (gk 8, .int), (gk 9, .boolean), (gk 10, .int)] sz)) (va_Qi (fun (r : Int32) (u : Int32 × Int32) => (r, u) = mX5_context f1 p0) (fun (u : Int32 × Int32) (t : State) => match u with | (th', f1') => va_P (dC, dI) vwCl (MWl ga gk th' L N mm f1' mr mh f8 en us eC eL eB eF eR eU eX f2 f3 f4 f5 f6 f7 f14 ff fa mn lg cm wa) t.heap ∧ va_K (dC, dI) vwCl [(gk 0, .long), (gk 1, .int), (gk 2, .int), (gk 3, .int), (gk 4, .int), (gk 5, .int), (gk 6, .int), (gk 7, .int), (gk 8, .int), (gk 9, .boolean), (gk 10, .int)] t ∧ va_D (va_A (MWl ga gk th L N mm f1 mr mh f8 en us eC eL eB eF eR eU eX f2 f3 f4 f5 f6 f7 f14 ff fa mn lg cm wa) sz) (MWl ga gk th' L N mm f1' mr mh f8 en us eC eL eB eF eR eU eX f2 f3 f4 f5 f6 f7 f14 ff fa mn lg cm wa)) (va_A (MWl ga gk th L N mm f1 mr mh f8 en us eC eL eB eF eR eU eX f2 f3 f4 f5 f6 f7 f14 ff fa mn lg cm wa) sz)) 0 0 (va_A (MWl ga gk th L N mm f1 mr mh f8 en us eC eL eB eF eR eU eX f2 f3 f4 f5 f6 f7 f14 ff fa mn lg cm wa) sz) := by
  refine cx_of (cc := cX5_context) (maxL := 3) (ret := some .int) (by decide) rfl (Nat.le_of_ble_eq_true rfl) ?_
  intro p e s m below meth c ls hx hb hr hts hown hlocks hml hnm hl hB
  have hta : ∀ w ∈ AW, w.before [.ref (ga 0), .int p0].toArray s = true := fun w h => hts w (List.mem_cons_of_mem _ h)
  have hl : lv_has ls 3 [(0, .ref (ga 0)), (1, .int p0)] := hl
  have hown : s.vm.findClass RX5 = some m.cls := hown
  obtain ⟨rfl, ⟨hP, hK, hN⟩, hD0⟩ := hB
  have hD := hD0.self (sz := s.heap.size)
  generalize hAe : va_A (MWl ga gk th L N mm f1 mr mh f8 en us eC eL eB eF eR eU eX f2 f3 f4 f5 f6 f7 f14 ff fa mn lg cm wa) s.heap.size = A at hD ⊢
  have hA : ∀ q : Nat, s.heap.size ≤ q → A q := fun q h => by rw [← hAe]; exact Or.inr h
  have hS : va_S A s.heap s.heap [] := va_S.rf
  refine lv_aload_n hx hb dX5_context_0 rfl (lv_at hl 0 rfl) ?_
  refine lv_iload_n hx hb dX5_context_1 rfl (lv_at hl 1 rfl) ?_
  refine lv_iconst (v := 4) hx hb dX5_context_2 (by decide) ?_
  refine cx_callSi (va_runS (As := [.int p0, .int (4 : Int32)]) (rest := [.ref (ga 0)]) ⟨hx, hb, hml, hown, hta⟩ (c_X5_isOf l p0 (4 : Int32)) (va_cwS 2 hta (gS aw_611 aw_612 aw_43 aw_613) rfl rfl rfl (by decide +kernel) ⟨Nat.le_of_ble_eq_true rfl, Nat.le_of_ble_eq_true rfl⟩) cx_pre0 rfl rfl hl.1 rfl (lv_room (Nat.le_of_ble_eq_true rfl)) dX5_context_3 ⟨Nat.le_of_ble_eq_true rfl, Nat.le_of_ble_eq_true rfl⟩) (fun r hw_1 => ?_)
  subst hw_1
  refine lv_if_ne (tgt := 13) hx hb dX5_context_6 (by decide) (fun c_6_1 => ?_) (fun c_6_1 => ?_)
  · refine lv_iconst (v := 0) hx hb dX5_context_13 (by decide) ?_
    refine lv_iconst (v := 0) hx hb dX5_context_14 (by decide) ?_
    have hFc : ∀ q, va_A (MWl ga gk th L N mm f1 mr mh f8 en us eC eL eB eF eR eU eX f2 f3 f4 f5 f6 f7 f14 ff fa mn lg cm wa) s.heap.size q → A q := cx_free hD hS hA
    refine va_calli (va_runV (As := [.int (0 : Int32), .int (0 : Int32)]) (rest := []) ⟨hx, hb, hml, hown, hta⟩ (c_X5_throwing l dC dI ga gk th L N mm f1 mr mh f8 en us eC eL eB eF eR eU eX f2 f3 f4 f5 f6 f7 f14 ff fa mn lg cm wa s.heap.size (0 : Int32) (0 : Int32)) (cwV 2 hta (gV aw_614 aw_616 aw_20 aw_43 aw_617) rfl rfl rfl (by decide +kernel) ⟨Nat.le_of_ble_eq_true rfl, Nat.le_of_ble_eq_true rfl⟩) (cx_preVQ hK hP hN (va_recv hK hP (ci := 5) (q0 := 0) rfl rfl) hD) rfl rfl hl.1 rfl (lv_room (Nat.le_of_ble_eq_true rfl)) dX5_context_15 ⟨Nat.le_of_ble_eq_true rfl, Nat.le_of_ble_eq_true rfl⟩) hS (fun q _ h => hFc q h) hFc (fun r_3 u t9 H1 locs ht hvm hw_3 hB hz1 hk1 hS => ?_)
    obtain ⟨th_3, rfl⟩ : ∃ z, z = u := ⟨_, rfl⟩
    obtain ⟨hP, hK1, hD1⟩ := hB
    rw [ht] at hP
    have hD := hD1.weaken (fun _ _ _ h => hFc _ h)
    clear hFc hz1 hk1 hK1 hD1 ht hvm
    generalize H1 = H at hP hS ⊢
    have hP : va_P (dC, dI) vwCl (MWl ga gk th_3 L N mm f1 mr mh f8 en us eC eL eB eF eR eU eX f2 f3 f4 f5 f6 f7 f14 ff fa mn lg cm wa) H := hP
    have hD : va_D A (MWl ga gk th_3 L N mm f1 mr mh f8 en us eC eL eB eF eR eU eX f2 f3 f4 f5 f6 f7 f14 ff fa mn lg cm wa) := hD
    obtain ⟨rfl, rfl⟩ : r_3 = (0 : Int32) ∧ th_3 = (0 : Int32) := by
      have h9 := hw_3
      unfold mX5_throwing at h9
      cases h9
      exact ⟨rfl, rfl⟩
    refine lv_if_eq (tgt := 23) hx hb dX5_context_18 (by decide) (fun c_18_3 => ?_) (fun c_18_3 => ?_)
    · refine lv_aload_n hx hb dX5_context_23 rfl (lv_at hl 0 rfl) ?_
      refine va_get (D := (dC, dI)) (ci := 5) (v := .int f1) (C := RX5) (T := TX5) (N := 30) hx hb hta inA_X5 hown hK hP 0 rfl rfl 4 (by decide) (hta _ aw_515) (fun _ h9 => h9) rfl dX5_context_24 ?_
      refine lv_istore_n (lv' := [(2, .int f1), (0, .ref (ga 0)), (1, .int p0)]) hx hb dX5_context_27 rfl hl (by decide) rfl (fun ls hl => ?_)
      refine lv_aload_n hx hb dX5_context_28 rfl (lv_at hl 1 rfl) ?_
      refine lv_iload_n hx hb dX5_context_29 rfl (lv_at hl 2 rfl) ?_
      refine va_put (D := (dC, dI)) (ci := 5) (v := .int p0) (ty := .int) (C := RX5) (T := TX5) (N := 30) hx hb hta inA_X5 tyX5 tyX5_ok nmX5 hown hK hP hD hS 0 rfl rfl 4 (by decide) (hta _ aw_515) (fun _ h9 => h9) rfl (by decide +kernel) rfl rfl (Nat.le_of_ble_eq_true rfl) dX5_context_30 (fun H locs hP hD hS => ?_)
      have hP : va_P (dC, dI) vwCl (MWl ga gk (0 : Int32) L N mm p0 mr mh f8 en us eC eL eB eF eR eU eX f2 f3 f4 f5 f6 f7 f14 ff fa mn lg cm wa) H := hP
      have hD : va_D A (MWl ga gk (0 : Int32) L N mm p0 mr mh f8 en us eC eL eB eF eR eU eX f2 f3 f4 f5 f6 f7 f14 ff fa mn lg cm wa) := hD
      refine lv_iload_n hx hb dX5_context_33 rfl (lv_at hl 0 rfl) ?_
      exact W.iret (v := f1) hx hb hr (fun t ht hW => ⟨⟨f1, ((0 : Int32), p0), rfl, (by unfold mX5_context; rewrite [if_neg c_6_1]; rewrite [← hw_3]; (try dsimp only); (first | done | rfl)), by rw [ht]; exact hP, va_K.moved hW.alike hK, hD⟩, hS.F ht⟩) hS.2.2 dX5_context_34
    · exact absurd (by decide) c_18_3
  · refine lv_iconst (v := 1) hx hb dX5_context_9 (by decide) ?_
    refine lv_goto (tgt := 14) hx hb dX5_context_10 (by decide) ?_
    refine lv_iconst (v := 0) hx hb dX5_context_14 (by decide) ?_
    have hFc : ∀ q, va_A (MWl ga gk th L N mm f1 mr mh f8 en us eC eL eB eF eR eU eX f2 f3 f4 f5 f6 f7 f14 ff fa mn lg cm wa) s.heap.size q → A q := cx_free hD hS hA
    refine va_calli (va_runV (As := [.int (1 : Int32), .int (0 : Int32)]) (rest := []) ⟨hx, hb, hml, hown, hta⟩ (c_X5_throwing l dC dI ga gk th L N mm f1 mr mh f8 en us eC eL eB eF eR eU eX f2 f3 f4 f5 f6 f7 f14 ff fa mn lg cm wa s.heap.size (1 : Int32) (0 : Int32)) (cwV 2 hta (gV aw_614 aw_616 aw_20 aw_43 aw_617) rfl rfl rfl (by decide +kernel) ⟨Nat.le_of_ble_eq_true rfl, Nat.le_of_ble_eq_true rfl⟩) (cx_preVQ hK hP hN (va_recv hK hP (ci := 5) (q0 := 0) rfl rfl) hD) rfl rfl hl.1 rfl (lv_room (Nat.le_of_ble_eq_true rfl)) dX5_context_15 ⟨Nat.le_of_ble_eq_true rfl, Nat.le_of_ble_eq_true rfl⟩) hS (fun q _ h => hFc q h) hFc (fun r_5 u t9 H1 locs ht hvm hw_5 hB hz1 hk1 hS => ?_)
    obtain ⟨th_5, rfl⟩ : ∃ z, z = u := ⟨_, rfl⟩
    obtain ⟨hP, hK1, hD1⟩ := hB
    rw [ht] at hP
    have hD := hD1.weaken (fun _ _ _ h => hFc _ h)
    clear hFc hz1 hk1 hK1 hD1 ht hvm
    generalize H1 = H at hP hS ⊢
    have hP : va_P (dC, dI) vwCl (MWl ga gk th_5 L N mm f1 mr mh f8 en us eC eL eB eF eR eU eX f2 f3 f4 f5 f6 f7 f14 ff fa mn lg cm wa) H := hP
    have hD : va_D A (MWl ga gk th_5 L N mm f1 mr mh f8 en us eC eL eB eF eR eU eX f2 f3 f4 f5 f6 f7 f14 ff fa mn lg cm wa) := hD
    obtain ⟨rfl, rfl⟩ : r_5 = (1 : Int32) ∧ th_5 = (1 : Int32) := by
      have h9 := hw_5
      unfold mX5_throwing at h9
      cases h9
      exact ⟨rfl, rfl⟩
    refine lv_if_eq (tgt := 23) hx hb dX5_context_18 (by decide) (fun c_18_5 => ?_) (fun c_18_5 => ?_)
    · exact absurd c_18_5 (by decide)
    · refine lv_iconst (v := 0) hx hb dX5_context_21 (by decide) ?_
      exact W.iret (v := (0 : Int32)) hx hb hr (fun t ht hW => ⟨⟨(0 : Int32), ((1 : Int32), f1), rfl, (by unfold mX5_context; rewrite [if_pos c_6_1]; rewrite [← hw_5]; (try dsimp only); (first | done | rfl)), by rw [ht]; exact hP, va_K.moved hW.alike hK, hD⟩, hS.F ht⟩) hS.2.2 dX5_context_22
/-- PageRowsModel.root -/
def mX5_root (mr : Nat → Int32) (p0 : Int32) (p1 : Int32) : Int32 × Int32 × (Nat → Int32) :=
  if (mX5_isOf p0 (4 : Int32)) = 0 then
    if (mX5_isOf p1 (256 : Int32)) = 0 then
      match mX5_throwing (1 : Int32) (1 : Int32) with
      | (r_13, th_13) =>
        ((0 : Int32), (1 : Int32), mr)
    else
      match mX5_throwing (1 : Int32) (0 : Int32) with
      | (r_11, th_11) =>
        ((0 : Int32), (1 : Int32), mr)
  else
    if (mX5_isOf p1 (256 : Int32)) = 0 then
      match mX5_throwing (0 : Int32) (1 : Int32) with
      | (r_7, th_7) =>
        ((0 : Int32), (2 : Int32), mr)
    else
      match mX5_throwing (0 : Int32) (0 : Int32) with
      | (r_5, th_5) =>
        (mr p0.toNatClampNeg, (0 : Int32), upd mr p0.toNatClampNeg p1)
set_option maxHeartbeats 4000000 in
set_option maxRecDepth 100000 in
theorem c_X5_root (l : Launch) (dC : Nat → ClassId) (dI : Nat → Nat → Nat) (ga : Nat → Nat) (gk : Nat → ClassId) (th : Int32) (L : Nat) (N : Nat) (mm : Nat → Int64) (f1 : Int32) (mr : Nat → Int32) (mh : Nat → Int32) (f8 : Int32) (en : Nat) (us : Nat) (eC : Nat → Int32) (eL : Nat → Int32) (eB : Nat → Int32) (eF : Nat → Int32) (eR : Nat → Int32) (eU : Nat → Int32) (eX : Nat → Int32) (f2 : Int32) (f3 : Int32) (f4 : Int32) (f5 : Int32) (f6 : Int32) (f7 : Int32) (f14 : Int32) (ff : Int32) (fa : Int32) (mn : Nat) (lg : Int32) (cm : Int32) (wa : Nat → Int32)  (sz : Nat) (p0 : Int32) (p1 : Int32)  : Met l yX5_root (wX5_root :: AW) ({ frames := 1, cells := 0, slots := 0, locals := 22 }) (va_Pc [.ref (ga 0), .int p0, .int p1] (CPrQ dC dI (MWl ga gk th L N mm f1 mr mh f8 en us eC eL eB eF eR eU eX f2 f3 f4 f5 f6 f7 f14 ff fa mn lg cm wa) [(gk 0, .long), (gk 1, .int), (gk 2, .int), (gk 3, .int), (gk 4, .int), (gk 5, .int), (gk 6, .int), (gk 7, .int), (gk 8, .int), (gk 9, .boolean), (gk 10, .int)] sz)) (va_Qi (fun (r : Int32) (u : Int32 × (Nat → Int32)) => (r, u) = mX5_root mr p0 p1) (fun (u : Int32 × (Nat → Int32)) (t : State) => match u with | (th', mr') => va_P (dC, dI) vwCl (MWl ga gk th' L N mm f1 mr' mh f8 en us eC eL eB eF eR eU eX f2 f3 f4 f5 f6 f7 f14 ff fa mn lg cm wa) t.heap ∧ va_K (dC, dI) vwCl [(gk 0, .long), (gk 1, .int), (gk 2, .int), (gk 3, .int), (gk 4, .int), (gk 5, .int), (gk 6, .int), (gk 7, .int), (gk 8, .int), (gk 9, .boolean), (gk 10, .int)] t ∧ va_D (va_A (MWl ga gk th L N mm f1 mr mh f8 en us eC eL eB eF eR eU eX f2 f3 f4 f5 f6 f7 f14 ff fa mn lg cm wa) sz) (MWl ga gk th' L N mm f1 mr' mh f8 en us eC eL eB eF eR eU eX f2 f3 f4 f5 f6 f7 f14 ff fa mn lg cm wa)) (va_A (MWl ga gk th L N mm f1 mr mh f8 en us eC eL eB eF eR eU eX f2 f3 f4 f5 f6 f7 f14 ff fa mn lg cm wa) sz)) 0 0 (va_A (MWl ga gk th L N mm f1 mr mh f8 en us eC eL eB eF eR eU eX f2 f3 f4 f5 f6 f7 f14 ff fa mn lg cm wa) sz) := by
  refine cx_of (cc := cX5_root) (maxL := 4) (ret := some .int) (by decide) rfl (Nat.le_of_ble_eq_true rfl) ?_
  intro p e s m below meth c ls hx hb hr hts hown hlocks hml hnm hl hB
  have hta : ∀ w ∈ AW, w.before [.ref (ga 0), .int p0, .int p1].toArray s = true := fun w h => hts w (List.mem_cons_of_mem _ h)
  have hl : lv_has ls 4 [(0, .ref (ga 0)), (1, .int p0), (2, .int p1)] := hl
  have hown : s.vm.findClass RX5 = some m.cls := hown
  obtain ⟨rfl, ⟨hP, hK, hN⟩, hD0⟩ := hB
  have hD := hD0.self (sz := s.heap.size)
  generalize hAe : va_A (MWl ga gk th L N mm f1 mr mh f8 en us eC eL eB eF eR eU eX f2 f3 f4 f5 f6 f7 f14 ff fa mn lg cm wa) s.heap.size = A at hD ⊢
  have hA : ∀ q : Nat, s.heap.size ≤ q → A q := fun q h => by rw [← hAe]; exact Or.inr h
  have hS : va_S A s.heap s.heap [] := va_S.rf
  refine lv_aload_n hx hb dX5_root_0 rfl (lv_at hl 0 rfl) ?_
  refine lv_iload_n hx hb dX5_root_1 rfl (lv_at hl 1 rfl) ?_
  refine lv_iconst (v := 4) hx hb dX5_root_2 (by decide) ?_
  refine cx_callSi (va_runS (As := [.int p0, .int (4 : Int32)]) (rest := [.ref (ga 0)]) ⟨hx, hb, hml, hown, hta⟩ (c_X5_isOf l p0 (4 : Int32)) (va_cwS 2 hta (gS aw_611 aw_612 aw_43 aw_613) rfl rfl rfl (by decide +kernel) ⟨Nat.le_of_ble_eq_true rfl, Nat.le_of_ble_eq_true rfl⟩) cx_pre0 rfl rfl hl.1 rfl (lv_room (Nat.le_of_ble_eq_true rfl)) dX5_root_3 ⟨Nat.le_of_ble_eq_true rfl, Nat.le_of_ble_eq_true rfl⟩) (fun r hw_1 => ?_)
  subst hw_1
  refine lv_if_ne (tgt := 13) hx hb dX5_root_6 (by decide) (fun c_6_1 => ?_) (fun c_6_1 => ?_)
  · refine lv_iconst (v := 0) hx hb dX5_root_13 (by decide) ?_
    refine lv_iload_n hx hb dX5_root_14 rfl (lv_at hl 2 rfl) ?_
    refine lv_sipush (v := 256) hx hb dX5_root_15 (by decide) ?_
    refine cx_callSi (va_runS (As := [.int p1, .int (256 : Int32)]) (rest := [.int (0 : Int32), .ref (ga 0)]) ⟨hx, hb, hml, hown, hta⟩ (c_X5_isOf l p1 (256 : Int32)) (va_cwS 2 hta (gS aw_611 aw_612 aw_43 aw_613) rfl rfl rfl (by decide +kernel) ⟨Nat.le_of_ble_eq_true rfl, Nat.le_of_ble_eq_true rfl⟩) cx_pre0 rfl rfl hl.1 rfl (lv_room (Nat.le_of_ble_eq_true rfl)) dX5_root_18 ⟨Nat.le_of_ble_eq_true rfl, Nat.le_of_ble_eq_true rfl⟩) (fun r hw_3 => ?_)
    subst hw_3
    refine lv_if_ne (tgt := 28) hx hb dX5_root_21 (by decide) (fun c_21_3 => ?_) (fun c_21_3 => ?_)
    · refine lv_iconst (v := 0) hx hb dX5_root_28 (by decide) ?_
      have hFc : ∀ q, va_A (MWl ga gk th L N mm f1 mr mh f8 en us eC eL eB eF eR eU eX f2 f3 f4 f5 f6 f7 f14 ff fa mn lg cm wa) s.heap.size q → A q := cx_free hD hS hA
      refine va_calli (va_runV (As := [.int (0 : Int32), .int (0 : Int32)]) (rest := []) ⟨hx, hb, hml, hown, hta⟩ (c_X5_throwing l dC dI ga gk th L N mm f1 mr mh f8 en us eC eL eB eF eR eU eX f2 f3 f4 f5 f6 f7 f14 ff fa mn lg cm wa s.heap.size (0 : Int32) (0 : Int32)) (cwV 2 hta (gV aw_614 aw_616 aw_20 aw_43 aw_617) rfl rfl rfl (by decide +kernel) ⟨Nat.le_of_ble_eq_true rfl, Nat.le_of_ble_eq_true rfl⟩) (cx_preVQ hK hP hN (va_recv hK hP (ci := 5) (q0 := 0) rfl rfl) hD) rfl rfl hl.1 rfl (lv_room (Nat.le_of_ble_eq_true rfl)) dX5_root_29 ⟨Nat.le_of_ble_eq_true rfl, Nat.le_of_ble_eq_true rfl⟩) hS (fun q _ h => hFc q h) hFc (fun r_5 u t9 H1 locs ht hvm hw_5 hB hz1 hk1 hS => ?_)
      obtain ⟨th_5, rfl⟩ : ∃ z, z = u := ⟨_, rfl⟩
      obtain ⟨hP, hK1, hD1⟩ := hB
      rw [ht] at hP
      have hD := hD1.weaken (fun _ _ _ h => hFc _ h)
      clear hFc hz1 hk1 hK1 hD1 ht hvm
      generalize H1 = H at hP hS ⊢
      have hP : va_P (dC, dI) vwCl (MWl ga gk th_5 L N mm f1 mr mh f8 en us eC eL eB eF eR eU eX f2 f3 f4 f5 f6 f7 f14 ff fa mn lg cm wa) H := hP
      have hD : va_D A (MWl ga gk th_5 L N mm f1 mr mh f8 en us eC eL eB eF eR eU eX f2 f3 f4 f5 f6 f7 f14 ff fa mn lg cm wa) := hD
      obtain ⟨rfl, rfl⟩ : r_5 = (0 : Int32) ∧ th_5 = (0 : Int32) := by
        have h9 := hw_5
        unfold mX5_throwing at h9
        cases h9
        exact ⟨rfl, rfl⟩
      refine lv_if_eq (tgt := 37) hx hb dX5_root_32 (by decide) (fun c_32_5 => ?_) (fun c_32_5 => ?_)
      · refine lv_aload_n hx hb dX5_root_37 rfl (lv_at hl 0 rfl) ?_
        refine va_get (D := (dC, dI)) (ci := 5) (v := .ref (ga 2)) (C := RX5) (T := TX5) (N := 30) hx hb hta inA_X5 hown hK hP 0 rfl rfl 5 (by decide) (hta _ aw_516) (fun _ h9 => h9) rfl dX5_root_38 ?_
        refine lv_iload_n hx hb dX5_root_41 rfl (lv_at hl 1 rfl) ?_
        refine va_iald hx hb hK hP 2 1 rfl rfl (of_in c_6_1 rfl) dX5_root_42 ?_
        refine lv_istore_n (lv' := [(3, .int (mr p0.toNatClampNeg)), (0, .ref (ga 0)), (1, .int p0), (2, .int p1)]) hx hb dX5_root_43 rfl hl (by decide) rfl (fun ls hl => ?_)
        refine lv_aload_n hx hb dX5_root_44 rfl (lv_at hl 1 rfl) ?_
        refine va_get (D := (dC, dI)) (ci := 5) (v := .ref (ga 2)) (C := RX5) (T := TX5) (N := 30) hx hb hta inA_X5 hown hK hP 0 rfl rfl 5 (by decide) (hta _ aw_516) (fun _ h9 => h9) rfl dX5_root_45 ?_
        refine lv_iload_n hx hb dX5_root_48 rfl (lv_at hl 2 rfl) ?_
        refine lv_iload_n hx hb dX5_root_49 rfl (lv_at hl 3 rfl) ?_
        refine va_iast hx hb hK hP hD hS 2 1 rfl rfl (of_in c_6_1 rfl) dX5_root_50 (fun H locs hP hD hS => ?_)
        have hP : va_P (dC, dI) vwCl (MWl ga gk (0 : Int32) L N mm f1 (upd mr p0.toNatClampNeg p1) mh f8 en us eC eL eB eF eR eU eX f2 f3 f4 f5 f6 f7 f14 ff fa mn lg cm wa) H := hP
        have hD : va_D A (MWl ga gk (0 : Int32) L N mm f1 (upd mr p0.toNatClampNeg p1) mh f8 en us eC eL eB eF eR eU eX f2 f3 f4 f5 f6 f7 f14 ff fa mn lg cm wa) := hD
        refine lv_iload_n hx hb dX5_root_51 rfl (lv_at hl 0 rfl) ?_
        exact W.iret (v := mr p0.toNatClampNeg) hx hb hr (fun t ht hW => ⟨⟨mr p0.toNatClampNeg, ((0 : Int32), upd mr p0.toNatClampNeg p1), rfl, (by unfold mX5_root; rewrite [if_neg c_6_1]; rewrite [if_neg c_21_3]; rewrite [← hw_5]; (try dsimp only); (first | done | rfl)), by rw [ht]; exact hP, va_K.moved hW.alike hK, hD⟩, hS.F ht⟩) hS.2.2 dX5_root_52
      · exact absurd (by decide) c_32_5
    · refine lv_iconst (v := 1) hx hb dX5_root_24 (by decide) ?_
      refine lv_goto (tgt := 29) hx hb dX5_root_25 (by decide) ?_
      have hFc : ∀ q, va_A (MWl ga gk th L N mm f1 mr mh f8 en us eC eL eB eF eR eU eX f2 f3 f4 f5 f6 f7 f14 ff fa mn lg cm wa) s.heap.size q → A q := cx_free hD hS hA
      refine va_calli (va_runV (As := [.int (0 : Int32), .int (1 : Int32)]) (rest := []) ⟨hx, hb, hml, hown, hta⟩ (c_X5_throwing l dC dI ga gk th L N mm f1 mr mh f8 en us eC eL eB eF eR eU eX f2 f3 f4 f5 f6 f7 f14 ff fa mn lg cm wa s.heap.size (0 : Int32) (1 : Int32)) (cwV 2 hta (gV aw_614 aw_616 aw_20 aw_43 aw_617) rfl rfl rfl (by decide +kernel) ⟨Nat.le_of_ble_eq_true rfl, Nat.le_of_ble_eq_true rfl⟩) (cx_preVQ hK hP hN (va_recv hK hP (ci := 5) (q0 := 0) rfl rfl) hD) rfl rfl hl.1 rfl (lv_room (Nat.le_of_ble_eq_true rfl)) dX5_root_29 ⟨Nat.le_of_ble_eq_true rfl, Nat.le_of_ble_eq_true rfl⟩) hS (fun q _ h => hFc q h) hFc (fun r_7 u t9 H1 locs ht hvm hw_7 hB hz1 hk1 hS => ?_)
      obtain ⟨th_7, rfl⟩ : ∃ z, z = u := ⟨_, rfl⟩
      obtain ⟨hP, hK1, hD1⟩ := hB
      rw [ht] at hP
      have hD := hD1.weaken (fun _ _ _ h => hFc _ h)
      clear hFc hz1 hk1 hK1 hD1 ht hvm
      generalize H1 = H at hP hS ⊢
      have hP : va_P (dC, dI) vwCl (MWl ga gk th_7 L N mm f1 mr mh f8 en us eC eL eB eF eR eU eX f2 f3 f4 f5 f6 f7 f14 ff fa mn lg cm wa) H := hP
      have hD : va_D A (MWl ga gk th_7 L N mm f1 mr mh f8 en us eC eL eB eF eR eU eX f2 f3 f4 f5 f6 f7 f14 ff fa mn lg cm wa) := hD
      obtain ⟨rfl, rfl⟩ : r_7 = (1 : Int32) ∧ th_7 = (2 : Int32) := by
        have h9 := hw_7
        unfold mX5_throwing at h9
        cases h9
        exact ⟨rfl, rfl⟩
      refine lv_if_eq (tgt := 37) hx hb dX5_root_32 (by decide) (fun c_32_7 => ?_) (fun c_32_7 => ?_)
      · exact absurd c_32_7 (by decide)
      · refine lv_iconst (v := 0) hx hb dX5_root_35 (by decide) ?_
        exact W.iret (v := (0 : Int32)) hx hb hr (fun t ht hW => ⟨⟨(0 : Int32), ((2 : Int32), mr), rfl, (by unfold mX5_root; rewrite [if_neg c_6_1]; rewrite [if_pos c_21_3]; rewrite [← hw_7]; (try dsimp only); (first | done | rfl)), by rw [ht]; exact hP, va_K.moved hW.alike hK, hD⟩, hS.F ht⟩) hS.2.2 dX5_root_36
  · refine lv_iconst (v := 1) hx hb dX5_root_9 (by decide) ?_
    refine lv_goto (tgt := 14) hx hb dX5_root_10 (by decide) ?_
    refine lv_iload_n hx hb dX5_root_14 rfl (lv_at hl 2 rfl) ?_
    refine lv_sipush (v := 256) hx hb dX5_root_15 (by decide) ?_
    refine cx_callSi (va_runS (As := [.int p1, .int (256 : Int32)]) (rest := [.int (1 : Int32), .ref (ga 0)]) ⟨hx, hb, hml, hown, hta⟩ (c_X5_isOf l p1 (256 : Int32)) (va_cwS 2 hta (gS aw_611 aw_612 aw_43 aw_613) rfl rfl rfl (by decide +kernel) ⟨Nat.le_of_ble_eq_true rfl, Nat.le_of_ble_eq_true rfl⟩) cx_pre0 rfl rfl hl.1 rfl (lv_room (Nat.le_of_ble_eq_true rfl)) dX5_root_18 ⟨Nat.le_of_ble_eq_true rfl, Nat.le_of_ble_eq_true rfl⟩) (fun r hw_9 => ?_)
    subst hw_9
    refine lv_if_ne (tgt := 28) hx hb dX5_root_21 (by decide) (fun c_21_9 => ?_) (fun c_21_9 => ?_)
    · refine lv_iconst (v := 0) hx hb dX5_root_28 (by decide) ?_
      have hFc : ∀ q, va_A (MWl ga gk th L N mm f1 mr mh f8 en us eC eL eB eF eR eU eX f2 f3 f4 f5 f6 f7 f14 ff fa mn lg cm wa) s.heap.size q → A q := cx_free hD hS hA
      refine va_calli (va_runV (As := [.int (1 : Int32), .int (0 : Int32)]) (rest := []) ⟨hx, hb, hml, hown, hta⟩ (c_X5_throwing l dC dI ga gk th L N mm f1 mr mh f8 en us eC eL eB eF eR eU eX f2 f3 f4 f5 f6 f7 f14 ff fa mn lg cm wa s.heap.size (1 : Int32) (0 : Int32)) (cwV 2 hta (gV aw_614 aw_616 aw_20 aw_43 aw_617) rfl rfl rfl (by decide +kernel) ⟨Nat.le_of_ble_eq_true rfl, Nat.le_of_ble_eq_true rfl⟩) (cx_preVQ hK hP hN (va_recv hK hP (ci := 5) (q0 := 0) rfl rfl) hD) rfl rfl hl.1 rfl (lv_room (Nat.le_of_ble_eq_true rfl)) dX5_root_29 ⟨Nat.le_of_ble_eq_true rfl, Nat.le_of_ble_eq_true rfl⟩) hS (fun q _ h => hFc q h) hFc (fun r_11 u t9 H1 locs ht hvm hw_11 hB hz1 hk1 hS => ?_)
      obtain ⟨th_11, rfl⟩ : ∃ z, z = u := ⟨_, rfl⟩
      obtain ⟨hP, hK1, hD1⟩ := hB
      rw [ht] at hP
      have hD := hD1.weaken (fun _ _ _ h => hFc _ h)
      clear hFc hz1 hk1 hK1 hD1 ht hvm
      generalize H1 = H at hP hS ⊢
      have hP : va_P (dC, dI) vwCl (MWl ga gk th_11 L N mm f1 mr mh f8 en us eC eL eB eF eR eU eX f2 f3 f4 f5 f6 f7 f14 ff fa mn lg cm wa) H := hP
      have hD : va_D A (MWl ga gk th_11 L N mm f1 mr mh f8 en us eC eL eB eF eR eU eX f2 f3 f4 f5 f6 f7 f14 ff fa mn lg cm wa) := hD
      obtain ⟨rfl, rfl⟩ : r_11 = (1 : Int32) ∧ th_11 = (1 : Int32) := by
        have h9 := hw_11
        unfold mX5_throwing at h9
        cases h9
        exact ⟨rfl, rfl⟩
      refine lv_if_eq (tgt := 37) hx hb dX5_root_32 (by decide) (fun c_32_11 => ?_) (fun c_32_11 => ?_)
      · exact absurd c_32_11 (by decide)
      · refine lv_iconst (v := 0) hx hb dX5_root_35 (by decide) ?_
        exact W.iret (v := (0 : Int32)) hx hb hr (fun t ht hW => ⟨⟨(0 : Int32), ((1 : Int32), mr), rfl, (by unfold mX5_root; rewrite [if_pos c_6_1]; rewrite [if_neg c_21_9]; rewrite [← hw_11]; (try dsimp only); (first | done | rfl)), by rw [ht]; exact hP, va_K.moved hW.alike hK, hD⟩, hS.F ht⟩) hS.2.2 dX5_root_36
    · refine lv_iconst (v := 1) hx hb dX5_root_24 (by decide) ?_
      refine lv_goto (tgt := 29) hx hb dX5_root_25 (by decide) ?_
      have hFc : ∀ q, va_A (MWl ga gk th L N mm f1 mr mh f8 en us eC eL eB eF eR eU eX f2 f3 f4 f5 f6 f7 f14 ff fa mn lg cm wa) s.heap.size q → A q := cx_free hD hS hA
      refine va_calli (va_runV (As := [.int (1 : Int32), .int (1 : Int32)]) (rest := []) ⟨hx, hb, hml, hown, hta⟩ (c_X5_throwing l dC dI ga gk th L N mm f1 mr mh f8 en us eC eL eB eF eR eU eX f2 f3 f4 f5 f6 f7 f14 ff fa mn lg cm wa s.heap.size (1 : Int32) (1 : Int32)) (cwV 2 hta (gV aw_614 aw_616 aw_20 aw_43 aw_617) rfl rfl rfl (by decide +kernel) ⟨Nat.le_of_ble_eq_true rfl, Nat.le_of_ble_eq_true rfl⟩) (cx_preVQ hK hP hN (va_recv hK hP (ci := 5) (q0 := 0) rfl rfl) hD) rfl rfl hl.1 rfl (lv_room (Nat.le_of_ble_eq_true rfl)) dX5_root_29 ⟨Nat.le_of_ble_eq_true rfl, Nat.le_of_ble_eq_true rfl⟩) hS (fun q _ h => hFc q h) hFc (fun r_13 u t9 H1 locs ht hvm hw_13 hB hz1 hk1 hS => ?_)
      obtain ⟨th_13, rfl⟩ : ∃ z, z = u := ⟨_, rfl⟩
      obtain ⟨hP, hK1, hD1⟩ := hB
      rw [ht] at hP
      have hD := hD1.weaken (fun _ _ _ h => hFc _ h)
      clear hFc hz1 hk1 hK1 hD1 ht hvm
      generalize H1 = H at hP hS ⊢
      have hP : va_P (dC, dI) vwCl (MWl ga gk th_13 L N mm f1 mr mh f8 en us eC eL eB eF eR eU eX f2 f3 f4 f5 f6 f7 f14 ff fa mn lg cm wa) H := hP
      have hD : va_D A (MWl ga gk th_13 L N mm f1 mr mh f8 en us eC eL eB eF eR eU eX f2 f3 f4 f5 f6 f7 f14 ff fa mn lg cm wa) := hD
      obtain ⟨rfl, rfl⟩ : r_13 = (1 : Int32) ∧ th_13 = (1 : Int32) := by
        have h9 := hw_13
        unfold mX5_throwing at h9
        cases h9
        exact ⟨rfl, rfl⟩
      refine lv_if_eq (tgt := 37) hx hb dX5_root_32 (by decide) (fun c_32_13 => ?_) (fun c_32_13 => ?_)
      · exact absurd c_32_13 (by decide)
      · refine lv_iconst (v := 0) hx hb dX5_root_35 (by decide) ?_
        exact W.iret (v := (0 : Int32)) hx hb hr (fun t ht hW => ⟨⟨(0 : Int32), ((1 : Int32), mr), rfl, (by unfold mX5_root; rewrite [if_pos c_6_1]; rewrite [if_pos c_21_9]; rewrite [← hw_13]; (try dsimp only); (first | done | rfl)), by rw [ht]; exact hP, va_K.moved hW.alike hK, hD⟩, hS.F ht⟩) hS.2.2 dX5_root_36
/-- PageRowsModel.host -/
def mX5_host (mh : Nat → Int32) (p0 : Int32) (p1 : Int32) : Int32 × Int32 × (Nat → Int32) :=
  if (mX5_isOf p0 (256 : Int32)) = 0 then
    if p1 < (-1 : Int32) then
      match mX5_throwing (1 : Int32) (1 : Int32) with
      | (r_12, th_12) =>
        ((0 : Int32), (1 : Int32), mh)
    else
      if p1 ≤ (65535 : Int32) then
        match mX5_throwing (1 : Int32) (0 : Int32) with
        | (r_15, th_15) =>
          ((0 : Int32), (1 : Int32), mh)
      else
        match mX5_throwing (1 : Int32) (1 : Int32) with
        | (r_17, th_17) =>
          ((0 : Int32), (1 : Int32), mh)
  else
    if p1 < (-1 : Int32) then
      match mX5_throwing (0 : Int32) (1 : Int32) with
      | (r_4, th_4) =>
        ((0 : Int32), (2 : Int32), mh)
    else
      if p1 ≤ (65535 : Int32) then
        match mX5_throwing (0 : Int32) (0 : Int32) with
        | (r_7, th_7) =>
          (mh p0.toNatClampNeg, (0 : Int32), upd mh p0.toNatClampNeg p1)
      else
        match mX5_throwing (0 : Int32) (1 : Int32) with
        | (r_9, th_9) =>
          ((0 : Int32), (2 : Int32), mh)
set_option maxHeartbeats 4000000 in
set_option maxRecDepth 100000 in
theorem c_X5_host (l : Launch) (dC : Nat → ClassId) (dI : Nat → Nat → Nat) (ga : Nat → Nat) (gk : Nat → ClassId) (th : Int32) (L : Nat) (N : Nat) (mm : Nat → Int64) (f1 : Int32) (mr : Nat → Int32) (mh : Nat → Int32) (f8 : Int32) (en : Nat) (us : Nat) (eC : Nat → Int32) (eL : Nat → Int32) (eB : Nat → Int32) (eF : Nat → Int32) (eR : Nat → Int32) (eU : Nat → Int32) (eX : Nat → Int32) (f2 : Int32) (f3 : Int32) (f4 : Int32) (f5 : Int32) (f6 : Int32) (f7 : Int32) (f14 : Int32) (ff : Int32) (fa : Int32) (mn : Nat) (lg : Int32) (cm : Int32) (wa : Nat → Int32)  (sz : Nat) (p0 : Int32) (p1 : Int32)  : Met l yX5_host (wX5_host :: AW) ({ frames := 1, cells := 0, slots := 0, locals := 22 }) (va_Pc [.ref (ga 0), .int p0, .int p1] (CPrQ dC dI (MWl ga gk th L N mm f1 mr mh f8 en us eC eL eB eF eR eU eX f2 f3 f4 f5 f6 f7 f14 ff fa mn lg cm wa) [(gk 0, .long), (gk 1, .int), (gk 2, .int), (gk 3, .int), (gk 4, .int), (gk 5, .int), (gk 6, .int), (gk 7, .int), (gk 8, .int), (gk 9, .boolean), (gk 10, .int)] sz)) (va_Qi (fun (r : Int32) (u : Int32 × (Nat → Int32)) => (r, u) = mX5_host mh p0 p1) (fun (u : Int32 × (Nat → Int32)) (t : State) => match u with | (th', mh') => va_P (dC, dI) vwCl (MWl ga gk th' L N mm f1 mr mh' f8 en us eC eL eB eF eR eU eX f2 f3 f4 f5 f6 f7 f14 ff fa mn lg cm wa) t.heap ∧ va_K (dC, dI) vwCl [(gk 0, .long), (gk 1, .int), (gk 2, .int), (gk 3, .int), (gk 4, .int), (gk 5, .int), (gk 6, .int), (gk 7, .int), (gk 8, .int), (gk 9, .boolean), (gk 10, .int)] t ∧ va_D (va_A (MWl ga gk th L N mm f1 mr mh f8 en us eC eL eB eF eR eU eX f2 f3 f4 f5 f6 f7 f14 ff fa mn lg cm wa) sz) (MWl ga gk th' L N mm f1 mr mh' f8 en us eC eL eB eF eR eU eX f2 f3 f4 f5 f6 f7 f14 ff fa mn lg cm wa)) (va_A (MWl ga gk th L N mm f1 mr mh f8 en us eC eL eB eF eR eU eX f2 f3 f4 f5 f6 f7 f14 ff fa mn lg cm wa) sz)) 0 0 (va_A (MWl ga gk th L N mm f1 mr mh f8 en us eC eL eB eF eR eU eX f2 f3 f4 f5 f6 f7 f14 ff fa mn lg cm wa) sz) := by
  refine cx_of (cc := cX5_host) (maxL := 4) (ret := some .int) (by decide) rfl (Nat.le_of_ble_eq_true rfl) ?_
  intro p e s m below meth c ls hx hb hr hts hown hlocks hml hnm hl hB
  have hta : ∀ w ∈ AW, w.before [.ref (ga 0), .int p0, .int p1].toArray s = true := fun w h => hts w (List.mem_cons_of_mem _ h)
  have hl : lv_has ls 4 [(0, .ref (ga 0)), (1, .int p0), (2, .int p1)] := hl
  have hown : s.vm.findClass RX5 = some m.cls := hown
  obtain ⟨rfl, ⟨hP, hK, hN⟩, hD0⟩ := hB
  have hD := hD0.self (sz := s.heap.size)
  generalize hAe : va_A (MWl ga gk th L N mm f1 mr mh f8 en us eC eL eB eF eR eU eX f2 f3 f4 f5 f6 f7 f14 ff fa mn lg cm wa) s.heap.size = A at hD ⊢
  have hA : ∀ q : Nat, s.heap.size ≤ q → A q := fun q h => by rw [← hAe]; exact Or.inr h
  have hS : va_S A s.heap s.heap [] := va_S.rf
  refine lv_aload_n hx hb dX5_host_0 rfl (lv_at hl 0 rfl) ?_
  refine lv_iload_n hx hb dX5_host_1 rfl (lv_at hl 1 rfl) ?_
  refine lv_sipush (v := 256) hx hb dX5_host_2 (by decide) ?_
  refine cx_callSi (va_runS (As := [.int p0, .int (256 : Int32)]) (rest := [.ref (ga 0)]) ⟨hx, hb, hml, hown, hta⟩ (c_X5_isOf l p0 (256 : Int32)) (va_cwS 2 hta (gS aw_611 aw_612 aw_43 aw_613) rfl rfl rfl (by decide +kernel) ⟨Nat.le_of_ble_eq_true rfl, Nat.le_of_ble_eq_true rfl⟩) cx_pre0 rfl rfl hl.1 rfl (lv_room (Nat.le_of_ble_eq_true rfl)) dX5_host_5 ⟨Nat.le_of_ble_eq_true rfl, Nat.le_of_ble_eq_true rfl⟩) (fun r hw_1 => ?_)
  subst hw_1
  refine lv_if_ne (tgt := 15) hx hb dX5_host_8 (by decide) (fun c_8_1 => ?_) (fun c_8_1 => ?_)
  · refine lv_iconst (v := 0) hx hb dX5_host_15 (by decide) ?_
    refine lv_iload_n hx hb dX5_host_16 rfl (lv_at hl 2 rfl) ?_
    refine lv_iconst (v := (-1)) hx hb dX5_host_17 (by decide) ?_
    refine lv_icmp_lt (tgt := 27) hx hb dX5_host_18 (by decide) (fun c_18_2 => ?_) (fun c_18_2 => ?_)
    · refine lv_iconst (v := 1) hx hb dX5_host_27 (by decide) ?_
      refine lv_goto (tgt := 32) hx hb dX5_host_28 (by decide) ?_
      have hFc : ∀ q, va_A (MWl ga gk th L N mm f1 mr mh f8 en us eC eL eB eF eR eU eX f2 f3 f4 f5 f6 f7 f14 ff fa mn lg cm wa) s.heap.size q → A q := cx_free hD hS hA
      refine va_calli (va_runV (As := [.int (0 : Int32), .int (1 : Int32)]) (rest := []) ⟨hx, hb, hml, hown, hta⟩ (c_X5_throwing l dC dI ga gk th L N mm f1 mr mh f8 en us eC eL eB eF eR eU eX f2 f3 f4 f5 f6 f7 f14 ff fa mn lg cm wa s.heap.size (0 : Int32) (1 : Int32)) (cwV 2 hta (gV aw_614 aw_616 aw_20 aw_43 aw_617) rfl rfl rfl (by decide +kernel) ⟨Nat.le_of_ble_eq_true rfl, Nat.le_of_ble_eq_true rfl⟩) (cx_preVQ hK hP hN (va_recv hK hP (ci := 5) (q0 := 0) rfl rfl) hD) rfl rfl hl.1 rfl (lv_room (Nat.le_of_ble_eq_true rfl)) dX5_host_32 ⟨Nat.le_of_ble_eq_true rfl, Nat.le_of_ble_eq_true rfl⟩) hS (fun q _ h => hFc q h) hFc (fun r_4 u t9 H1 locs ht hvm hw_4 hB hz1 hk1 hS => ?_)
      obtain ⟨th_4, rfl⟩ : ∃ z, z = u := ⟨_, rfl⟩
      obtain ⟨hP, hK1, hD1⟩ := hB
      rw [ht] at hP
      have hD := hD1.weaken (fun _ _ _ h => hFc _ h)
      clear hFc hz1 hk1 hK1 hD1 ht hvm
      generalize H1 = H at hP hS ⊢
      have hP : va_P (dC, dI) vwCl (MWl ga gk th_4 L N mm f1 mr mh f8 en us eC eL eB eF eR eU eX f2 f3 f4 f5 f6 f7 f14 ff fa mn lg cm wa) H := hP
      have hD : va_D A (MWl ga gk th_4 L N mm f1 mr mh f8 en us eC eL eB eF eR eU eX f2 f3 f4 f5 f6 f7 f14 ff fa mn lg cm wa) := hD
      obtain ⟨rfl, rfl⟩ : r_4 = (1 : Int32) ∧ th_4 = (2 : Int32) := by
        have h9 := hw_4
        unfold mX5_throwing at h9
        cases h9
        exact ⟨rfl, rfl⟩
      refine lv_if_eq (tgt := 40) hx hb dX5_host_35 (by decide) (fun c_35_4 => ?_) (fun c_35_4 => ?_)
      · exact absurd c_35_4 (by decide)
      · refine lv_iconst (v := 0) hx hb dX5_host_38 (by decide) ?_
        exact W.iret (v := (0 : Int32)) hx hb hr (fun t ht hW => ⟨⟨(0 : Int32), ((2 : Int32), mh), rfl, (by unfold mX5_host; rewrite [if_neg c_8_1]; rewrite [if_pos c_18_2]; rewrite [← hw_4]; (try dsimp only); (first | done | rfl)), by rw [ht]; exact hP, va_K.moved hW.alike hK, hD⟩, hS.F ht⟩) hS.2.2 dX5_host_39
    · refine lv_iload_n hx hb dX5_host_21 rfl (lv_at hl 2 rfl) ?_
      refine lv_ldc (v := 65535) hx hb hown (hta _ aw_634) dX5_host_22 ?_
      refine lv_icmp_le (tgt := 31) hx hb dX5_host_24 (by decide) (fun c_24_5 => ?_) (fun c_24_5 => ?_)
      · refine lv_iconst (v := 0) hx hb dX5_host_31 (by decide) ?_
        have hFc : ∀ q, va_A (MWl ga gk th L N mm f1 mr mh f8 en us eC eL eB eF eR eU eX f2 f3 f4 f5 f6 f7 f14 ff fa mn lg cm wa) s.heap.size q → A q := cx_free hD hS hA
        refine va_calli (va_runV (As := [.int (0 : Int32), .int (0 : Int32)]) (rest := []) ⟨hx, hb, hml, hown, hta⟩ (c_X5_throwing l dC dI ga gk th L N mm f1 mr mh f8 en us eC eL eB eF eR eU eX f2 f3 f4 f5 f6 f7 f14 ff fa mn lg cm wa s.heap.size (0 : Int32) (0 : Int32)) (cwV 2 hta (gV aw_614 aw_616 aw_20 aw_43 aw_617) rfl rfl rfl (by decide +kernel) ⟨Nat.le_of_ble_eq_true rfl, Nat.le_of_ble_eq_true rfl⟩) (cx_preVQ hK hP hN (va_recv hK hP (ci := 5) (q0 := 0) rfl rfl) hD) rfl rfl hl.1 rfl (lv_room (Nat.le_of_ble_eq_true rfl)) dX5_host_32 ⟨Nat.le_of_ble_eq_true rfl, Nat.le_of_ble_eq_true rfl⟩) hS (fun q _ h => hFc q h) hFc (fun r_7 u t9 H1 locs ht hvm hw_7 hB hz1 hk1 hS => ?_)
        obtain ⟨th_7, rfl⟩ : ∃ z, z = u := ⟨_, rfl⟩
        obtain ⟨hP, hK1, hD1⟩ := hB
        rw [ht] at hP
        have hD := hD1.weaken (fun _ _ _ h => hFc _ h)
        clear hFc hz1 hk1 hK1 hD1 ht hvm
        generalize H1 = H at hP hS ⊢
        have hP : va_P (dC, dI) vwCl (MWl ga gk th_7 L N mm f1 mr mh f8 en us eC eL eB eF eR eU eX f2 f3 f4 f5 f6 f7 f14 ff fa mn lg cm wa) H := hP
        have hD : va_D A (MWl ga gk th_7 L N mm f1 mr mh f8 en us eC eL eB eF eR eU eX f2 f3 f4 f5 f6 f7 f14 ff fa mn lg cm wa) := hD
        obtain ⟨rfl, rfl⟩ : r_7 = (0 : Int32) ∧ th_7 = (0 : Int32) := by
          have h9 := hw_7
          unfold mX5_throwing at h9
          cases h9
          exact ⟨rfl, rfl⟩
        refine lv_if_eq (tgt := 40) hx hb dX5_host_35 (by decide) (fun c_35_7 => ?_) (fun c_35_7 => ?_)
        · refine lv_aload_n hx hb dX5_host_40 rfl (lv_at hl 0 rfl) ?_
          refine va_get (D := (dC, dI)) (ci := 5) (v := .ref (ga 3)) (C := RX5) (T := TX5) (N := 30) hx hb hta inA_X5 hown hK hP 0 rfl rfl 6 (by decide) (hta _ aw_517) (fun _ h9 => h9) rfl dX5_host_41 ?_
          refine lv_iload_n hx hb dX5_host_44 rfl (lv_at hl 1 rfl) ?_
          refine va_iald hx hb hK hP 3 2 rfl rfl (of_in c_8_1 rfl) dX5_host_45 ?_
          refine lv_istore_n (lv' := [(3, .int (mh p0.toNatClampNeg)), (0, .ref (ga 0)), (1, .int p0), (2, .int p1)]) hx hb dX5_host_46 rfl hl (by decide) rfl (fun ls hl => ?_)
          refine lv_aload_n hx hb dX5_host_47 rfl (lv_at hl 1 rfl) ?_
          refine va_get (D := (dC, dI)) (ci := 5) (v := .ref (ga 3)) (C := RX5) (T := TX5) (N := 30) hx hb hta inA_X5 hown hK hP 0 rfl rfl 6 (by decide) (hta _ aw_517) (fun _ h9 => h9) rfl dX5_host_48 ?_
          refine lv_iload_n hx hb dX5_host_51 rfl (lv_at hl 2 rfl) ?_
          refine lv_iload_n hx hb dX5_host_52 rfl (lv_at hl 3 rfl) ?_
          refine va_iast hx hb hK hP hD hS 3 2 rfl rfl (of_in c_8_1 rfl) dX5_host_53 (fun H locs hP hD hS => ?_)
          have hP : va_P (dC, dI) vwCl (MWl ga gk (0 : Int32) L N mm f1 mr (upd mh p0.toNatClampNeg p1) f8 en us eC eL eB eF eR eU eX f2 f3 f4 f5 f6 f7 f14 ff fa mn lg cm wa) H := hP
          have hD : va_D A (MWl ga gk (0 : Int32) L N mm f1 mr (upd mh p0.toNatClampNeg p1) f8 en us eC eL eB eF eR eU eX f2 f3 f4 f5 f6 f7 f14 ff fa mn lg cm wa) := hD
          refine lv_iload_n hx hb dX5_host_54 rfl (lv_at hl 0 rfl) ?_
          exact W.iret (v := mh p0.toNatClampNeg) hx hb hr (fun t ht hW => ⟨⟨mh p0.toNatClampNeg, ((0 : Int32), upd mh p0.toNatClampNeg p1), rfl, (by unfold mX5_host; rewrite [if_neg c_8_1]; rewrite [if_neg c_18_2]; rewrite [if_pos c_24_5]; rewrite [← hw_7]; (try dsimp only); (first | done | rfl)), by rw [ht]; exact hP, va_K.moved hW.alike hK, hD⟩, hS.F ht⟩) hS.2.2 dX5_host_55
        · exact absurd (by decide) c_35_7
      · refine lv_iconst (v := 1) hx hb dX5_host_27 (by decide) ?_
        refine lv_goto (tgt := 32) hx hb dX5_host_28 (by decide) ?_
        have hFc : ∀ q, va_A (MWl ga gk th L N mm f1 mr mh f8 en us eC eL eB eF eR eU eX f2 f3 f4 f5 f6 f7 f14 ff fa mn lg cm wa) s.heap.size q → A q := cx_free hD hS hA
        refine va_calli (va_runV (As := [.int (0 : Int32), .int (1 : Int32)]) (rest := []) ⟨hx, hb, hml, hown, hta⟩ (c_X5_throwing l dC dI ga gk th L N mm f1 mr mh f8 en us eC eL eB eF eR eU eX f2 f3 f4 f5 f6 f7 f14 ff fa mn lg cm wa s.heap.size (0 : Int32) (1 : Int32)) (cwV 2 hta (gV aw_614 aw_616 aw_20 aw_43 aw_617) rfl rfl rfl (by decide +kernel) ⟨Nat.le_of_ble_eq_true rfl, Nat.le_of_ble_eq_true rfl⟩) (cx_preVQ hK hP hN (va_recv hK hP (ci := 5) (q0 := 0) rfl rfl) hD) rfl rfl hl.1 rfl (lv_room (Nat.le_of_ble_eq_true rfl)) dX5_host_32 ⟨Nat.le_of_ble_eq_true rfl, Nat.le_of_ble_eq_true rfl⟩) hS (fun q _ h => hFc q h) hFc (fun r_9 u t9 H1 locs ht hvm hw_9 hB hz1 hk1 hS => ?_)
        obtain ⟨th_9, rfl⟩ : ∃ z, z = u := ⟨_, rfl⟩
        obtain ⟨hP, hK1, hD1⟩ := hB
        rw [ht] at hP
        have hD := hD1.weaken (fun _ _ _ h => hFc _ h)
        clear hFc hz1 hk1 hK1 hD1 ht hvm
        generalize H1 = H at hP hS ⊢
        have hP : va_P (dC, dI) vwCl (MWl ga gk th_9 L N mm f1 mr mh f8 en us eC eL eB eF eR eU eX f2 f3 f4 f5 f6 f7 f14 ff fa mn lg cm wa) H := hP
        have hD : va_D A (MWl ga gk th_9 L N mm f1 mr mh f8 en us eC eL eB eF eR eU eX f2 f3 f4 f5 f6 f7 f14 ff fa mn lg cm wa) := hD
        obtain ⟨rfl, rfl⟩ : r_9 = (1 : Int32) ∧ th_9 = (2 : Int32) := by
          have h9 := hw_9
          unfold mX5_throwing at h9
          cases h9
          exact ⟨rfl, rfl⟩
        refine lv_if_eq (tgt := 40) hx hb dX5_host_35 (by decide) (fun c_35_9 => ?_) (fun c_35_9 => ?_)
        · exact absurd c_35_9 (by decide)
        · refine lv_iconst (v := 0) hx hb dX5_host_38 (by decide) ?_
          exact W.iret (v := (0 : Int32)) hx hb hr (fun t ht hW => ⟨⟨(0 : Int32), ((2 : Int32), mh), rfl, (by unfold mX5_host; rewrite [if_neg c_8_1]; rewrite [if_neg c_18_2]; rewrite [if_neg c_24_5]; rewrite [← hw_9]; (try dsimp only); (first | done | rfl)), by rw [ht]; exact hP, va_K.moved hW.alike hK, hD⟩, hS.F ht⟩) hS.2.2 dX5_host_39
  · refine lv_iconst (v := 1) hx hb dX5_host_11 (by decide) ?_
    refine lv_goto (tgt := 16) hx hb dX5_host_12 (by decide) ?_
    refine lv_iload_n hx hb dX5_host_16 rfl (lv_at hl 2 rfl) ?_
    refine lv_iconst (v := (-1)) hx hb dX5_host_17 (by decide) ?_
    refine lv_icmp_lt (tgt := 27) hx hb dX5_host_18 (by decide) (fun c_18_10 => ?_) (fun c_18_10 => ?_)
    · refine lv_iconst (v := 1) hx hb dX5_host_27 (by decide) ?_
      refine lv_goto (tgt := 32) hx hb dX5_host_28 (by decide) ?_
      have hFc : ∀ q, va_A (MWl ga gk th L N mm f1 mr mh f8 en us eC eL eB eF eR eU eX f2 f3 f4 f5 f6 f7 f14 ff fa mn lg cm wa) s.heap.size q → A q := cx_free hD hS hA
      refine va_calli (va_runV (As := [.int (1 : Int32), .int (1 : Int32)]) (rest := []) ⟨hx, hb, hml, hown, hta⟩ (c_X5_throwing l dC dI ga gk th L N mm f1 mr mh f8 en us eC eL eB eF eR eU eX f2 f3 f4 f5 f6 f7 f14 ff fa mn lg cm wa s.heap.size (1 : Int32) (1 : Int32)) (cwV 2 hta (gV aw_614 aw_616 aw_20 aw_43 aw_617) rfl rfl rfl (by decide +kernel) ⟨Nat.le_of_ble_eq_true rfl, Nat.le_of_ble_eq_true rfl⟩) (cx_preVQ hK hP hN (va_recv hK hP (ci := 5) (q0 := 0) rfl rfl) hD) rfl rfl hl.1 rfl (lv_room (Nat.le_of_ble_eq_true rfl)) dX5_host_32 ⟨Nat.le_of_ble_eq_true rfl, Nat.le_of_ble_eq_true rfl⟩) hS (fun q _ h => hFc q h) hFc (fun r_12 u t9 H1 locs ht hvm hw_12 hB hz1 hk1 hS => ?_)
      obtain ⟨th_12, rfl⟩ : ∃ z, z = u := ⟨_, rfl⟩
      obtain ⟨hP, hK1, hD1⟩ := hB
      rw [ht] at hP
      have hD := hD1.weaken (fun _ _ _ h => hFc _ h)
      clear hFc hz1 hk1 hK1 hD1 ht hvm
      generalize H1 = H at hP hS ⊢
      have hP : va_P (dC, dI) vwCl (MWl ga gk th_12 L N mm f1 mr mh f8 en us eC eL eB eF eR eU eX f2 f3 f4 f5 f6 f7 f14 ff fa mn lg cm wa) H := hP
      have hD : va_D A (MWl ga gk th_12 L N mm f1 mr mh f8 en us eC eL eB eF eR eU eX f2 f3 f4 f5 f6 f7 f14 ff fa mn lg cm wa) := hD
      obtain ⟨rfl, rfl⟩ : r_12 = (1 : Int32) ∧ th_12 = (1 : Int32) := by
        have h9 := hw_12
        unfold mX5_throwing at h9
        cases h9
        exact ⟨rfl, rfl⟩
      refine lv_if_eq (tgt := 40) hx hb dX5_host_35 (by decide) (fun c_35_12 => ?_) (fun c_35_12 => ?_)
      · exact absurd c_35_12 (by decide)
      · refine lv_iconst (v := 0) hx hb dX5_host_38 (by decide) ?_
        exact W.iret (v := (0 : Int32)) hx hb hr (fun t ht hW => ⟨⟨(0 : Int32), ((1 : Int32), mh), rfl, (by unfold mX5_host; rewrite [if_pos c_8_1]; rewrite [if_pos c_18_10]; rewrite [← hw_12]; (try dsimp only); (first | done | rfl)), by rw [ht]; exact hP, va_K.moved hW.alike hK, hD⟩, hS.F ht⟩) hS.2.2 dX5_host_39
    · refine lv_iload_n hx hb dX5_host_21 rfl (lv_at hl 2 rfl) ?_
      refine lv_ldc (v := 65535) hx hb hown (hta _ aw_634) dX5_host_22 ?_
      refine lv_icmp_le (tgt := 31) hx hb dX5_host_24 (by decide) (fun c_24_13 => ?_) (fun c_24_13 => ?_)
      · refine lv_iconst (v := 0) hx hb dX5_host_31 (by decide) ?_
        have hFc : ∀ q, va_A (MWl ga gk th L N mm f1 mr mh f8 en us eC eL eB eF eR eU eX f2 f3 f4 f5 f6 f7 f14 ff fa mn lg cm wa) s.heap.size q → A q := cx_free hD hS hA
        refine va_calli (va_runV (As := [.int (1 : Int32), .int (0 : Int32)]) (rest := []) ⟨hx, hb, hml, hown, hta⟩ (c_X5_throwing l dC dI ga gk th L N mm f1 mr mh f8 en us eC eL eB eF eR eU eX f2 f3 f4 f5 f6 f7 f14 ff fa mn lg cm wa s.heap.size (1 : Int32) (0 : Int32)) (cwV 2 hta (gV aw_614 aw_616 aw_20 aw_43 aw_617) rfl rfl rfl (by decide +kernel) ⟨Nat.le_of_ble_eq_true rfl, Nat.le_of_ble_eq_true rfl⟩) (cx_preVQ hK hP hN (va_recv hK hP (ci := 5) (q0 := 0) rfl rfl) hD) rfl rfl hl.1 rfl (lv_room (Nat.le_of_ble_eq_true rfl)) dX5_host_32 ⟨Nat.le_of_ble_eq_true rfl, Nat.le_of_ble_eq_true rfl⟩) hS (fun q _ h => hFc q h) hFc (fun r_15 u t9 H1 locs ht hvm hw_15 hB hz1 hk1 hS => ?_)
        obtain ⟨th_15, rfl⟩ : ∃ z, z = u := ⟨_, rfl⟩
        obtain ⟨hP, hK1, hD1⟩ := hB
        rw [ht] at hP
        have hD := hD1.weaken (fun _ _ _ h => hFc _ h)
        clear hFc hz1 hk1 hK1 hD1 ht hvm
        generalize H1 = H at hP hS ⊢
        have hP : va_P (dC, dI) vwCl (MWl ga gk th_15 L N mm f1 mr mh f8 en us eC eL eB eF eR eU eX f2 f3 f4 f5 f6 f7 f14 ff fa mn lg cm wa) H := hP
        have hD : va_D A (MWl ga gk th_15 L N mm f1 mr mh f8 en us eC eL eB eF eR eU eX f2 f3 f4 f5 f6 f7 f14 ff fa mn lg cm wa) := hD
        obtain ⟨rfl, rfl⟩ : r_15 = (1 : Int32) ∧ th_15 = (1 : Int32) := by
          have h9 := hw_15
          unfold mX5_throwing at h9
          cases h9
          exact ⟨rfl, rfl⟩
        refine lv_if_eq (tgt := 40) hx hb dX5_host_35 (by decide) (fun c_35_15 => ?_) (fun c_35_15 => ?_)
        · exact absurd c_35_15 (by decide)
        · refine lv_iconst (v := 0) hx hb dX5_host_38 (by decide) ?_
          exact W.iret (v := (0 : Int32)) hx hb hr (fun t ht hW => ⟨⟨(0 : Int32), ((1 : Int32), mh), rfl, (by unfold mX5_host; rewrite [if_pos c_8_1]; rewrite [if_neg c_18_10]; rewrite [if_pos c_24_13]; rewrite [← hw_15]; (try dsimp only); (first | done | rfl)), by rw [ht]; exact hP, va_K.moved hW.alike hK, hD⟩, hS.F ht⟩) hS.2.2 dX5_host_39
      · refine lv_iconst (v := 1) hx hb dX5_host_27 (by decide) ?_
        refine lv_goto (tgt := 32) hx hb dX5_host_28 (by decide) ?_
        have hFc : ∀ q, va_A (MWl ga gk th L N mm f1 mr mh f8 en us eC eL eB eF eR eU eX f2 f3 f4 f5 f6 f7 f14 ff fa mn lg cm wa) s.heap.size q → A q := cx_free hD hS hA
        refine va_calli (va_runV (As := [.int (1 : Int32), .int (1 : Int32)]) (rest := []) ⟨hx, hb, hml, hown, hta⟩ (c_X5_throwing l dC dI ga gk th L N mm f1 mr mh f8 en us eC eL eB eF eR eU eX f2 f3 f4 f5 f6 f7 f14 ff fa mn lg cm wa s.heap.size (1 : Int32) (1 : Int32)) (cwV 2 hta (gV aw_614 aw_616 aw_20 aw_43 aw_617) rfl rfl rfl (by decide +kernel) ⟨Nat.le_of_ble_eq_true rfl, Nat.le_of_ble_eq_true rfl⟩) (cx_preVQ hK hP hN (va_recv hK hP (ci := 5) (q0 := 0) rfl rfl) hD) rfl rfl hl.1 rfl (lv_room (Nat.le_of_ble_eq_true rfl)) dX5_host_32 ⟨Nat.le_of_ble_eq_true rfl, Nat.le_of_ble_eq_true rfl⟩) hS (fun q _ h => hFc q h) hFc (fun r_17 u t9 H1 locs ht hvm hw_17 hB hz1 hk1 hS => ?_)
        obtain ⟨th_17, rfl⟩ : ∃ z, z = u := ⟨_, rfl⟩
        obtain ⟨hP, hK1, hD1⟩ := hB
        rw [ht] at hP
        have hD := hD1.weaken (fun _ _ _ h => hFc _ h)
        clear hFc hz1 hk1 hK1 hD1 ht hvm
        generalize H1 = H at hP hS ⊢
        have hP : va_P (dC, dI) vwCl (MWl ga gk th_17 L N mm f1 mr mh f8 en us eC eL eB eF eR eU eX f2 f3 f4 f5 f6 f7 f14 ff fa mn lg cm wa) H := hP
        have hD : va_D A (MWl ga gk th_17 L N mm f1 mr mh f8 en us eC eL eB eF eR eU eX f2 f3 f4 f5 f6 f7 f14 ff fa mn lg cm wa) := hD
        obtain ⟨rfl, rfl⟩ : r_17 = (1 : Int32) ∧ th_17 = (1 : Int32) := by
          have h9 := hw_17
          unfold mX5_throwing at h9
          cases h9
          exact ⟨rfl, rfl⟩
        refine lv_if_eq (tgt := 40) hx hb dX5_host_35 (by decide) (fun c_35_17 => ?_) (fun c_35_17 => ?_)
        · exact absurd c_35_17 (by decide)
        · refine lv_iconst (v := 0) hx hb dX5_host_38 (by decide) ?_
          exact W.iret (v := (0 : Int32)) hx hb hr (fun t ht hW => ⟨⟨(0 : Int32), ((1 : Int32), mh), rfl, (by unfold mX5_host; rewrite [if_pos c_8_1]; rewrite [if_neg c_18_10]; rewrite [if_neg c_24_13]; rewrite [← hw_17]; (try dsimp only); (first | done | rfl)), by rw [ht]; exact hP, va_K.moved hW.alike hK, hD⟩, hS.F ht⟩) hS.2.2 dX5_host_39
/-- PageRowsModel.hosts -/
def mX5_hosts (f8 : Int32) (p0 : Int32) : Int32 × Int32 × Int32 :=
  (f8, (0 : Int32), p0)
set_option maxHeartbeats 4000000 in
set_option maxRecDepth 100000 in
theorem c_X5_hosts (l : Launch) (dC : Nat → ClassId) (dI : Nat → Nat → Nat) (ga : Nat → Nat) (gk : Nat → ClassId) (th : Int32) (L : Nat) (N : Nat) (mm : Nat → Int64) (f1 : Int32) (mr : Nat → Int32) (mh : Nat → Int32) (f8 : Int32) (en : Nat) (us : Nat) (eC : Nat → Int32) (eL : Nat → Int32) (eB : Nat → Int32) (eF : Nat → Int32) (eR : Nat → Int32) (eU : Nat → Int32) (eX : Nat → Int32) (f2 : Int32) (f3 : Int32) (f4 : Int32) (f5 : Int32) (f6 : Int32) (f7 : Int32) (f14 : Int32) (ff : Int32) (fa : Int32) (mn : Nat) (lg : Int32) (cm : Int32) (wa : Nat → Int32)  (sz : Nat) (p0 : Int32) (hz : narrow .boolean (.int p0) = .int p0) (hz8 : narrow .boolean (.int f8) = .int f8) : Met l yX5_hosts (wX5_hosts :: AW) ({ frames := 0, cells := 0, slots := 0, locals := 0 }) (va_Pc [.ref (ga 0), .int p0] (CPrQ dC dI (MWl ga gk th L N mm f1 mr mh f8 en us eC eL eB eF eR eU eX f2 f3 f4 f5 f6 f7 f14 ff fa mn lg cm wa) [(gk 0, .long), (gk 1, .int), (gk 2, .int), (gk 3, .int), (gk 4, .int), (gk 5, .int), (gk 6, .int), (gk 7, .int), (gk 8, .int), (gk 9, .boolean), (gk 10, .int)] sz)) (va_Qi (fun (r : Int32) (u : Int32 × Int32) => (r, u) = mX5_hosts f8 p0) (fun (u : Int32 × Int32) (t : State) => match u with | (th', f8') => va_P (dC, dI) vwCl (MWl ga gk th' L N mm f1 mr mh f8' en us eC eL eB eF eR eU eX f2 f3 f4 f5 f6 f7 f14 ff fa mn lg cm wa) t.heap ∧ va_K (dC, dI) vwCl [(gk 0, .long), (gk 1, .int), (gk 2, .int), (gk 3, .int), (gk 4, .int), (gk 5, .int), (gk 6, .int), (gk 7, .int), (gk 8, .int), (gk 9, .boolean), (gk 10, .int)] t ∧ va_D (va_A (MWl ga gk th L N mm f1 mr mh f8 en us eC eL eB eF eR eU eX f2 f3 f4 f5 f6 f7 f14 ff fa mn lg cm wa) sz) (MWl ga gk th' L N mm f1 mr mh f8' en us eC eL eB eF eR eU eX f2 f3 f4 f5 f6 f7 f14 ff fa mn lg cm wa)) (va_A (MWl ga gk th L N mm f1 mr mh f8 en us eC eL eB eF eR eU eX f2 f3 f4 f5 f6 f7 f14 ff fa mn lg cm wa) sz)) 0 0 (va_A (MWl ga gk th L N mm f1 mr mh f8 en us eC eL eB eF eR eU eX f2 f3 f4 f5 f6 f7 f14 ff fa mn lg cm wa) sz) := by
  refine cx_of (cc := cX5_hosts) (maxL := 3) (ret := some .boolean) (by decide) rfl (Nat.le_of_ble_eq_true rfl) ?_
  intro p e s m below meth c ls hx hb hr hts hown hlocks hml hnm hl hB
  have hta : ∀ w ∈ AW, w.before [.ref (ga 0), .int p0].toArray s = true := fun w h => hts w (List.mem_cons_of_mem _ h)
  have hl : lv_has ls 3 [(0, .ref (ga 0)), (1, .int p0)] := hl
  have hown : s.vm.findClass RX5 = some m.cls := hown
  obtain ⟨rfl, ⟨hP, hK, hN⟩, hD0⟩ := hB
  have hD := hD0.self (sz := s.heap.size)
  generalize hAe : va_A (MWl ga gk th L N mm f1 mr mh f8 en us eC eL eB eF eR eU eX f2 f3 f4 f5 f6 f7 f14 ff fa mn lg cm wa) s.heap.size = A at hD ⊢
  have hA : ∀ q : Nat, s.heap.size ≤ q → A q := fun q h => by rw [← hAe]; exact Or.inr h
  have hS : va_S A s.heap s.heap [] := va_S.rf
  refine lv_aload_n hx hb dX5_hosts_0 rfl (lv_at hl 0 rfl) ?_
  refine lv_iconst (v := 0) hx hb dX5_hosts_1 (by decide) ?_
  refine va_put (D := (dC, dI)) (ci := 5) (v := .int (0 : Int32)) (ty := .int) (C := RX5) (T := TX5) (N := 30) hx hb hta inA_X5 tyX5 tyX5_ok nmX5 hown hK hP hD hS 0 rfl rfl 0 (by decide) (hta _ aw_511) (fun _ h9 => h9) rfl (by decide +kernel) rfl rfl (Nat.le_of_ble_eq_true rfl) dX5_hosts_2 (fun H locs hP hD hS => ?_)
  have hP : va_P (dC, dI) vwCl (MWl ga gk (0 : Int32) L N mm f1 mr mh f8 en us eC eL eB eF eR eU eX f2 f3 f4 f5 f6 f7 f14 ff fa mn lg cm wa) H := hP
  have hD : va_D A (MWl ga gk (0 : Int32) L N mm f1 mr mh f8 en us eC eL eB eF eR eU eX f2 f3 f4 f5 f6 f7 f14 ff fa mn lg cm wa) := hD
  refine lv_aload_n hx hb dX5_hosts_5 rfl (lv_at hl 0 rfl) ?_
  refine va_get (D := (dC, dI)) (ci := 5) (v := .int f8) (C := RX5) (T := TX5) (N := 30) hx hb hta inA_X5 hown hK hP 0 rfl rfl 7 (by decide) (hta _ aw_518) (fun _ h9 => h9) rfl dX5_hosts_6 ?_
  refine lv_istore_n (lv' := [(2, .int f8), (0, .ref (ga 0)), (1, .int p0)]) hx hb dX5_hosts_9 rfl hl (by decide) rfl (fun ls hl => ?_)
  refine lv_aload_n hx hb dX5_hosts_10 rfl (lv_at hl 1 rfl) ?_
  refine lv_iload_n hx hb dX5_hosts_11 rfl (lv_at hl 2 rfl) ?_
  refine va_put (D := (dC, dI)) (ci := 5) (v := .int p0) (ty := .boolean) (C := RX5) (T := TX5) (N := 30) hx hb hta inA_X5 tyX5 tyX5_ok nmX5 hown hK hP hD hS 0 rfl rfl 7 (by decide) (hta _ aw_518) (fun _ h9 => h9) rfl (by decide +kernel) hz (cx_fitZ hz) (Nat.le_of_ble_eq_true rfl) dX5_hosts_12 (fun H locs hP hD hS => ?_)
  have hP : va_P (dC, dI) vwCl (MWl ga gk (0 : Int32) L N mm f1 mr mh p0 en us eC eL eB eF eR eU eX f2 f3 f4 f5 f6 f7 f14 ff fa mn lg cm wa) H := hP
  have hD : va_D A (MWl ga gk (0 : Int32) L N mm f1 mr mh p0 en us eC eL eB eF eR eU eX f2 f3 f4 f5 f6 f7 f14 ff fa mn lg cm wa) := hD
  refine lv_iload_n hx hb dX5_hosts_15 rfl (lv_at hl 0 rfl) ?_
  exact W.zret (ty := .boolean) (v := f8) hx hb hr hz8 (fun t ht hW => ⟨⟨f8, ((0 : Int32), p0), rfl, (by unfold mX5_hosts; (first | done | rfl)), by rw [ht]; exact hP, va_K.moved hW.alike hK, hD⟩, hS.F ht⟩) hS.2.2 dX5_hosts_16
/-- PageRowsModel.to -/
def mX5_to (f2 : Int32) : Int32 × Int32 :=
  (f2, (0 : Int32))
set_option maxHeartbeats 4000000 in
set_option maxRecDepth 100000 in
theorem c_X5_to (l : Launch) (dC : Nat → ClassId) (dI : Nat → Nat → Nat) (ga : Nat → Nat) (gk : Nat → ClassId) (th : Int32) (L : Nat) (N : Nat) (mm : Nat → Int64) (f1 : Int32) (mr : Nat → Int32) (mh : Nat → Int32) (f8 : Int32) (en : Nat) (us : Nat) (eC : Nat → Int32) (eL : Nat → Int32) (eB : Nat → Int32) (eF : Nat → Int32) (eR : Nat → Int32) (eU : Nat → Int32) (eX : Nat → Int32) (f2 : Int32) (f3 : Int32) (f4 : Int32) (f5 : Int32) (f6 : Int32) (f7 : Int32) (f14 : Int32) (ff : Int32) (fa : Int32) (mn : Nat) (lg : Int32) (cm : Int32) (wa : Nat → Int32)  (sz : Nat)   : Met l yX5_to (wX5_to :: AW) ({ frames := 0, cells := 0, slots := 0, locals := 0 }) (va_Pc [.ref (ga 0)] (CPrQ dC dI (MWl ga gk th L N mm f1 mr mh f8 en us eC eL eB eF eR eU eX f2 f3 f4 f5 f6 f7 f14 ff fa mn lg cm wa) [(gk 0, .long), (gk 1, .int), (gk 2, .int), (gk 3, .int), (gk 4, .int), (gk 5, .int), (gk 6, .int), (gk 7, .int), (gk 8, .int), (gk 9, .boolean), (gk 10, .int)] sz)) (va_Qi (fun (r : Int32) (u : Int32) => (r, u) = mX5_to f2) (fun (u : Int32) (t : State) => match u with | th' => va_P (dC, dI) vwCl (MWl ga gk th' L N mm f1 mr mh f8 en us eC eL eB eF eR eU eX f2 f3 f4 f5 f6 f7 f14 ff fa mn lg cm wa) t.heap ∧ va_K (dC, dI) vwCl [(gk 0, .long), (gk 1, .int), (gk 2, .int), (gk 3, .int), (gk 4, .int), (gk 5, .int), (gk 6, .int), (gk 7, .int), (gk 8, .int), (gk 9, .boolean), (gk 10, .int)] t ∧ va_D (va_A (MWl ga gk th L N mm f1 mr mh f8 en us eC eL eB eF eR eU eX f2 f3 f4 f5 f6 f7 f14 ff fa mn lg cm wa) sz) (MWl ga gk th' L N mm f1 mr mh f8 en us eC eL eB eF eR eU eX f2 f3 f4 f5 f6 f7 f14 ff fa mn lg cm wa)) (va_A (MWl ga gk th L N mm f1 mr mh f8 en us eC eL eB eF eR eU eX f2 f3 f4 f5 f6 f7 f14 ff fa mn lg cm wa) sz)) 0 0 (va_A (MWl ga gk th L N mm f1 mr mh f8 en us eC eL eB eF eR eU eX f2 f3 f4 f5 f6 f7 f14 ff fa mn lg cm wa) sz) := by
  refine cx_of (cc := cX5_to) (maxL := 1) (ret := some .int) (by decide) rfl (Nat.le_of_ble_eq_true rfl) ?_
  intro p e s m below meth c ls hx hb hr hts hown hlocks hml hnm hl hB
  have hta : ∀ w ∈ AW, w.before [.ref (ga 0)].toArray s = true := fun w h => hts w (List.mem_cons_of_mem _ h)
  have hl : lv_has ls 1 [(0, .ref (ga 0))] := hl
  have hown : s.vm.findClass RX5 = some m.cls := hown
  obtain ⟨rfl, ⟨hP, hK, hN⟩, hD0⟩ := hB
  have hD := hD0.self (sz := s.heap.size)
  generalize hAe : va_A (MWl ga gk th L N mm f1 mr mh f8 en us eC eL eB eF eR eU eX f2 f3 f4 f5 f6 f7 f14 ff fa mn lg cm wa) s.heap.size = A at hD ⊢
  have hA : ∀ q : Nat, s.heap.size ≤ q → A q := fun q h => by rw [← hAe]; exact Or.inr h
  have hS : va_S A s.heap s.heap [] := va_S.rf
  refine lv_aload_n hx hb dX5_to_0 rfl (lv_at hl 0 rfl) ?_
  refine lv_iconst (v := 0) hx hb dX5_to_1 (by decide) ?_
  refine va_put (D := (dC, dI)) (ci := 5) (v := .int (0 : Int32)) (ty := .int) (C := RX5) (T := TX5) (N := 30) hx hb hta inA_X5 tyX5 tyX5_ok nmX5 hown hK hP hD hS 0 rfl rfl 0 (by decide) (hta _ aw_511) (fun _ h9 => h9) rfl (by decide +kernel) rfl rfl (Nat.le_of_ble_eq_true rfl) dX5_to_2 (fun H locs hP hD hS => ?_)
  have hP : va_P (dC, dI) vwCl (MWl ga gk (0 : Int32) L N mm f1 mr mh f8 en us eC eL eB eF eR eU eX f2 f3 f4 f5 f6 f7 f14 ff fa mn lg cm wa) H := hP
  have hD : va_D A (MWl ga gk (0 : Int32) L N mm f1 mr mh f8 en us eC eL eB eF eR eU eX f2 f3 f4 f5 f6 f7 f14 ff fa mn lg cm wa) := hD
  refine lv_aload_n hx hb dX5_to_5 rfl (lv_at hl 0 rfl) ?_
  refine va_get (D := (dC, dI)) (ci := 5) (v := .int f2) (C := RX5) (T := TX5) (N := 30) hx hb hta inA_X5 hown hK hP 0 rfl rfl 17 (by decide) (hta _ aw_528) (fun _ h9 => h9) rfl dX5_to_6 ?_
  exact W.iret (v := f2) hx hb hr (fun t ht hW => ⟨⟨f2, (0 : Int32), rfl, (by unfold mX5_to; (first | done | rfl)), by rw [ht]; exact hP, va_K.moved hW.alike hK, hD⟩, hS.F ht⟩) hS.2.2 dX5_to_9
/-- PageRowsModel.level -/
def mX5_level (f3 : Int32) : Int32 × Int32 :=
  (f3, (0 : Int32))
set_option maxHeartbeats 4000000 in
set_option maxRecDepth 100000 in
theorem c_X5_level (l : Launch) (dC : Nat → ClassId) (dI : Nat → Nat → Nat) (ga : Nat → Nat) (gk : Nat → ClassId) (th : Int32) (L : Nat) (N : Nat) (mm : Nat → Int64) (f1 : Int32) (mr : Nat → Int32) (mh : Nat → Int32) (f8 : Int32) (en : Nat) (us : Nat) (eC : Nat → Int32) (eL : Nat → Int32) (eB : Nat → Int32) (eF : Nat → Int32) (eR : Nat → Int32) (eU : Nat → Int32) (eX : Nat → Int32) (f2 : Int32) (f3 : Int32) (f4 : Int32) (f5 : Int32) (f6 : Int32) (f7 : Int32) (f14 : Int32) (ff : Int32) (fa : Int32) (mn : Nat) (lg : Int32) (cm : Int32) (wa : Nat → Int32)  (sz : Nat)   : Met l yX5_level (wX5_level :: AW) ({ frames := 0, cells := 0, slots := 0, locals := 0 }) (va_Pc [.ref (ga 0)] (CPrQ dC dI (MWl ga gk th L N mm f1 mr mh f8 en us eC eL eB eF eR eU eX f2 f3 f4 f5 f6 f7 f14 ff fa mn lg cm wa) [(gk 0, .long), (gk 1, .int), (gk 2, .int), (gk 3, .int), (gk 4, .int), (gk 5, .int), (gk 6, .int), (gk 7, .int), (gk 8, .int), (gk 9, .boolean), (gk 10, .int)] sz)) (va_Qi (fun (r : Int32) (u : Int32) => (r, u) = mX5_level f3) (fun (u : Int32) (t : State) => match u with | th' => va_P (dC, dI) vwCl (MWl ga gk th' L N mm f1 mr mh f8 en us eC eL eB eF eR eU eX f2 f3 f4 f5 f6 f7 f14 ff fa mn lg cm wa) t.heap ∧ va_K (dC, dI) vwCl [(gk 0, .long), (gk 1, .int), (gk 2, .int), (gk 3, .int), (gk 4, .int), (gk 5, .int), (gk 6, .int), (gk 7, .int), (gk 8, .int), (gk 9, .boolean), (gk 10, .int)] t ∧ va_D (va_A (MWl ga gk th L N mm f1 mr mh f8 en us eC eL eB eF eR eU eX f2 f3 f4 f5 f6 f7 f14 ff fa mn lg cm wa) sz) (MWl ga gk th' L N mm f1 mr mh f8 en us eC eL eB eF eR eU eX f2 f3 f4 f5 f6 f7 f14 ff fa mn lg cm wa)) (va_A (MWl ga gk th L N mm f1 mr mh f8 en us eC eL eB eF eR eU eX f2 f3 f4 f5 f6 f7 f14 ff fa mn lg cm wa) sz)) 0 0 (va_A (MWl ga gk th L N mm f1 mr mh f8 en us eC eL eB eF eR eU eX f2 f3 f4 f5 f6 f7 f14 ff fa mn lg cm wa) sz) := by
  refine cx_of (cc := cX5_level) (maxL := 1) (ret := some .int) (by decide) rfl (Nat.le_of_ble_eq_true rfl) ?_
  intro p e s m below meth c ls hx hb hr hts hown hlocks hml hnm hl hB
  have hta : ∀ w ∈ AW, w.before [.ref (ga 0)].toArray s = true := fun w h => hts w (List.mem_cons_of_mem _ h)
  have hl : lv_has ls 1 [(0, .ref (ga 0))] := hl
  have hown : s.vm.findClass RX5 = some m.cls := hown
  obtain ⟨rfl, ⟨hP, hK, hN⟩, hD0⟩ := hB
  have hD := hD0.self (sz := s.heap.size)
  generalize hAe : va_A (MWl ga gk th L N mm f1 mr mh f8 en us eC eL eB eF eR eU eX f2 f3 f4 f5 f6 f7 f14 ff fa mn lg cm wa) s.heap.size = A at hD ⊢
  have hA : ∀ q : Nat, s.heap.size ≤ q → A q := fun q h => by rw [← hAe]; exact Or.inr h
  have hS : va_S A s.heap s.heap [] := va_S.rf
  refine lv_aload_n hx hb dX5_level_0 rfl (lv_at hl 0 rfl) ?_
  refine lv_iconst (v := 0) hx hb dX5_level_1 (by decide) ?_
  refine va_put (D := (dC, dI)) (ci := 5) (v := .int (0 : Int32)) (ty := .int) (C := RX5) (T := TX5) (N := 30) hx hb hta inA_X5 tyX5 tyX5_ok nmX5 hown hK hP hD hS 0 rfl rfl 0 (by decide) (hta _ aw_511) (fun _ h9 => h9) rfl (by decide +kernel) rfl rfl (Nat.le_of_ble_eq_true rfl) dX5_level_2 (fun H locs hP hD hS => ?_)
  have hP : va_P (dC, dI) vwCl (MWl ga gk (0 : Int32) L N mm f1 mr mh f8 en us eC eL eB eF eR eU eX f2 f3 f4 f5 f6 f7 f14 ff fa mn lg cm wa) H := hP
  have hD : va_D A (MWl ga gk (0 : Int32) L N mm f1 mr mh f8 en us eC eL eB eF eR eU eX f2 f3 f4 f5 f6 f7 f14 ff fa mn lg cm wa) := hD
  refine lv_aload_n hx hb dX5_level_5 rfl (lv_at hl 0 rfl) ?_
  refine va_get (D := (dC, dI)) (ci := 5) (v := .int f3) (C := RX5) (T := TX5) (N := 30) hx hb hta inA_X5 hown hK hP 0 rfl rfl 18 (by decide) (hta _ aw_529) (fun _ h9 => h9) rfl dX5_level_6 ?_
  exact W.iret (v := f3) hx hb hr (fun t ht hW => ⟨⟨f3, (0 : Int32), rfl, (by unfold mX5_level; (first | done | rfl)), by rw [ht]; exact hP, va_K.moved hW.alike hK, hD⟩, hS.F ht⟩) hS.2.2 dX5_level_9
/-- PageRowsModel.count -/
def mX5_count (L : Nat) (N : Nat) (f1 : Int32) (en : Nat) (f4 : Int32) (f5 : Int32) (f6 : Int32) (f7 : Int32) (f14 : Int32) (p0 : Int32) : Int32 × Int32 :=
  if p0 = 0 then
    (nI L, (0 : Int32))
  else
    if p0 = 1 then
      (nI N, (0 : Int32))
    else
      if p0 = 2 then
        (nI en, (0 : Int32))
      else
        if p0 = 3 then
          (f1, (0 : Int32))
        else
          if p0 = 4 then
            (f4, (0 : Int32))
          else
            if p0 = 5 then
              (f5, (0 : Int32))
            else
              if p0 = 6 then
                (f6, (0 : Int32))
              else
                if p0 = 7 then
                  (f7, (0 : Int32))
                else
                  if p0 = 8 then
                    (f14, (0 : Int32))
                  else
                    ((-1 : Int32), (0 : Int32))
set_option maxHeartbeats 4000000 in
set_option maxRecDepth 100000 in
theorem c_X5_count (l : Launch) (dC : Nat → ClassId) (dI : Nat → Nat → Nat) (ga : Nat → Nat) (gk : Nat → ClassId) (th : Int32) (L : Nat) (N : Nat) (mm : Nat → Int64) (f1 : Int32) (mr : Nat → Int32) (mh : Nat → Int32) (f8 : Int32) (en : Nat) (us : Nat) (eC : Nat → Int32) (eL : Nat → Int32) (eB : Nat → Int32) (eF : Nat → Int32) (eR : Nat → Int32) (eU : Nat → Int32) (eX : Nat → Int32) (f2 : Int32) (f3 : Int32) (f4 : Int32) (f5 : Int32) (f6 : Int32) (f7 : Int32) (f14 : Int32) (ff : Int32) (fa : Int32) (mn : Nat) (lg : Int32) (cm : Int32) (wa : Nat → Int32)  (sz : Nat) (p0 : Int32)  : Met l yX5_count (wX5_count :: AW) ({ frames := 0, cells := 0, slots := 0, locals := 0 }) (va_Pc [.ref (ga 0), .int p0] (CPrQ dC dI (MWl ga gk th L N mm f1 mr mh f8 en us eC eL eB eF eR eU eX f2 f3 f4 f5 f6 f7 f14 ff fa mn lg cm wa) [(gk 0, .long), (gk 1, .int), (gk 2, .int), (gk 3, .int), (gk 4, .int), (gk 5, .int), (gk 6, .int), (gk 7, .int), (gk 8, .int), (gk 9, .boolean), (gk 10, .int)] sz)) (va_Qi (fun (r : Int32) (u : Int32) => (r, u) = mX5_count L N f1 en f4 f5 f6 f7 f14 p0) (fun (u : Int32) (t : State) => match u with | th' => va_P (dC, dI) vwCl (MWl ga gk th' L N mm f1 mr mh f8 en us eC eL eB eF eR eU eX f2 f3 f4 f5 f6 f7 f14 ff fa mn lg cm wa) t.heap ∧ va_K (dC, dI) vwCl [(gk 0, .long), (gk 1, .int), (gk 2, .int), (gk 3, .int), (gk 4, .int), (gk 5, .int), (gk 6, .int), (gk 7, .int), (gk 8, .int), (gk 9, .boolean), (gk 10, .int)] t ∧ va_D (va_A (MWl ga gk th L N mm f1 mr mh f8 en us eC eL eB eF eR eU eX f2 f3 f4 f5 f6 f7 f14 ff fa mn lg cm wa) sz) (MWl ga gk th' L N mm f1 mr mh f8 en us eC eL eB eF eR eU eX f2 f3 f4 f5 f6 f7 f14 ff fa mn lg cm wa)) (va_A (MWl ga gk th L N mm f1 mr mh f8 en us eC eL eB eF eR eU eX f2 f3 f4 f5 f6 f7 f14 ff fa mn lg cm wa) sz)) 0 0 (va_A (MWl ga gk th L N mm f1 mr mh f8 en us eC eL eB eF eR eU eX f2 f3 f4 f5 f6 f7 f14 ff fa mn lg cm wa) sz) := by
  refine cx_of (cc := cX5_count) (maxL := 2) (ret := some .int) (by decide) rfl (Nat.le_of_ble_eq_true rfl) ?_
  intro p e s m below meth c ls hx hb hr hts hown hlocks hml hnm hl hB
  have hta : ∀ w ∈ AW, w.before [.ref (ga 0), .int p0].toArray s = true := fun w h => hts w (List.mem_cons_of_mem _ h)
  have hl : lv_has ls 2 [(0, .ref (ga 0)), (1, .int p0)] := hl
  have hown : s.vm.findClass RX5 = some m.cls := hown
  obtain ⟨rfl, ⟨hP, hK, hN⟩, hD0⟩ := hB
  have hD := hD0.self (sz := s.heap.size)
  generalize hAe : va_A (MWl ga gk th L N mm f1 mr mh f8 en us eC eL eB eF eR eU eX f2 f3 f4 f5 f6 f7 f14 ff fa mn lg cm wa) s.heap.size = A at hD ⊢
  have hA : ∀ q : Nat, s.heap.size ≤ q → A q := fun q h => by rw [← hAe]; exact Or.inr h
  have hS : va_S A s.heap s.heap [] := va_S.rf
  refine lv_aload_n hx hb dX5_count_0 rfl (lv_at hl 0 rfl) ?_
  refine lv_iconst (v := 0) hx hb dX5_count_1 (by decide) ?_
  refine va_put (D := (dC, dI)) (ci := 5) (v := .int (0 : Int32)) (ty := .int) (C := RX5) (T := TX5) (N := 30) hx hb hta inA_X5 tyX5 tyX5_ok nmX5 hown hK hP hD hS 0 rfl rfl 0 (by decide) (hta _ aw_511) (fun _ h9 => h9) rfl (by decide +kernel) rfl rfl (Nat.le_of_ble_eq_true rfl) dX5_count_2 (fun H locs hP hD hS => ?_)
  have hP : va_P (dC, dI) vwCl (MWl ga gk (0 : Int32) L N mm f1 mr mh f8 en us eC eL eB eF eR eU eX f2 f3 f4 f5 f6 f7 f14 ff fa mn lg cm wa) H := hP
  have hD : va_D A (MWl ga gk (0 : Int32) L N mm f1 mr mh f8 en us eC eL eB eF eR eU eX f2 f3 f4 f5 f6 f7 f14 ff fa mn lg cm wa) := hD
  refine lv_iload_n hx hb dX5_count_5 rfl (lv_at hl 1 rfl) ?_
  by_cases c_sw_0 : p0 = 0
  · refine lv_tableIn (tgt := 56) hx hb dX5_count_6 (by rw [c_sw_0]; decide) (by rw [c_sw_0]; decide) (by rw [c_sw_0]; rfl) (by decide) ?_
    refine lv_aload_n hx hb dX5_count_56 rfl (lv_at hl 0 rfl) ?_
    refine va_get (D := (dC, dI)) (ci := 5) (v := .int (nI L)) (C := RX5) (T := TX5) (N := 30) hx hb hta inA_X5 hown hK hP 0 rfl rfl 1 (by decide) (hta _ aw_512) (fun _ h9 => h9) rfl dX5_count_57 ?_
    exact W.iret (v := nI L) hx hb hr (fun t ht hW => ⟨⟨nI L, (0 : Int32), rfl, (by unfold mX5_count; rewrite [if_pos c_sw_0]; (first | done | rfl)), by rw [ht]; exact hP, va_K.moved hW.alike hK, hD⟩, hS.F ht⟩) hS.2.2 dX5_count_60
  · by_cases c_sw_1 : p0 = 1
    · refine lv_tableIn (tgt := 61) hx hb dX5_count_6 (by rw [c_sw_1]; decide) (by rw [c_sw_1]; decide) (by rw [c_sw_1]; rfl) (by decide) ?_
      refine lv_aload_n hx hb dX5_count_61 rfl (lv_at hl 0 rfl) ?_
      refine va_get (D := (dC, dI)) (ci := 5) (v := .int (nI N)) (C := RX5) (T := TX5) (N := 30) hx hb hta inA_X5 hown hK hP 0 rfl rfl 2 (by decide) (hta _ aw_513) (fun _ h9 => h9) rfl dX5_count_62 ?_
      exact W.iret (v := nI N) hx hb hr (fun t ht hW => ⟨⟨nI N, (0 : Int32), rfl, (by unfold mX5_count; rewrite [if_neg c_sw_0]; rewrite [if_pos c_sw_1]; (first | done | rfl)), by rw [ht]; exact hP, va_K.moved hW.alike hK, hD⟩, hS.F ht⟩) hS.2.2 dX5_count_65
    · by_cases c_sw_2 : p0 = 2
      · refine lv_tableIn (tgt := 66) hx hb dX5_count_6 (by rw [c_sw_2]; decide) (by rw [c_sw_2]; decide) (by rw [c_sw_2]; rfl) (by decide) ?_
        refine lv_aload_n hx hb dX5_count_66 rfl (lv_at hl 0 rfl) ?_
        refine va_get (D := (dC, dI)) (ci := 5) (v := .int (nI en)) (C := RX5) (T := TX5) (N := 30) hx hb hta inA_X5 hown hK hP 0 rfl rfl 8 (by decide) (hta _ aw_519) (fun _ h9 => h9) rfl dX5_count_67 ?_
        exact W.iret (v := nI en) hx hb hr (fun t ht hW => ⟨⟨nI en, (0 : Int32), rfl, (by unfold mX5_count; rewrite [if_neg c_sw_0]; rewrite [if_neg c_sw_1]; rewrite [if_pos c_sw_2]; (first | done | rfl)), by rw [ht]; exact hP, va_K.moved hW.alike hK, hD⟩, hS.F ht⟩) hS.2.2 dX5_count_70
      · by_cases c_sw_3 : p0 = 3
        · refine lv_tableIn (tgt := 71) hx hb dX5_count_6 (by rw [c_sw_3]; decide) (by rw [c_sw_3]; decide) (by rw [c_sw_3]; rfl) (by decide) ?_
          refine lv_aload_n hx hb dX5_count_71 rfl (lv_at hl 0 rfl) ?_
          refine va_get (D := (dC, dI)) (ci := 5) (v := .int f1) (C := RX5) (T := TX5) (N := 30) hx hb hta inA_X5 hown hK hP 0 rfl rfl 4 (by decide) (hta _ aw_515) (fun _ h9 => h9) rfl dX5_count_72 ?_
          exact W.iret (v := f1) hx hb hr (fun t ht hW => ⟨⟨f1, (0 : Int32), rfl, (by unfold mX5_count; rewrite [if_neg c_sw_0]; rewrite [if_neg c_sw_1]; rewrite [if_neg c_sw_2]; rewrite [if_pos c_sw_3]; (first | done | rfl)), by rw [ht]; exact hP, va_K.moved hW.alike hK, hD⟩, hS.F ht⟩) hS.2.2 dX5_count_75
        · by_cases c_sw_4 : p0 = 4
          · refine lv_tableIn (tgt := 76) hx hb dX5_count_6 (by rw [c_sw_4]; decide) (by rw [c_sw_4]; decide) (by rw [c_sw_4]; rfl) (by decide) ?_
            refine lv_aload_n hx hb dX5_count_76 rfl (lv_at hl 0 rfl) ?_
            refine va_get (D := (dC, dI)) (ci := 5) (v := .int f4) (C := RX5) (T := TX5) (N := 30) hx hb hta inA_X5 hown hK hP 0 rfl rfl 19 (by decide) (hta _ aw_530) (fun _ h9 => h9) rfl dX5_count_77 ?_
            exact W.iret (v := f4) hx hb hr (fun t ht hW => ⟨⟨f4, (0 : Int32), rfl, (by unfold mX5_count; rewrite [if_neg c_sw_0]; rewrite [if_neg c_sw_1]; rewrite [if_neg c_sw_2]; rewrite [if_neg c_sw_3]; rewrite [if_pos c_sw_4]; (first | done | rfl)), by rw [ht]; exact hP, va_K.moved hW.alike hK, hD⟩, hS.F ht⟩) hS.2.2 dX5_count_80
          · by_cases c_sw_5 : p0 = 5
            · refine lv_tableIn (tgt := 81) hx hb dX5_count_6 (by rw [c_sw_5]; decide) (by rw [c_sw_5]; decide) (by rw [c_sw_5]; rfl) (by decide) ?_
              refine lv_aload_n hx hb dX5_count_81 rfl (lv_at hl 0 rfl) ?_
              refine va_get (D := (dC, dI)) (ci := 5) (v := .int f5) (C := RX5) (T := TX5) (N := 30) hx hb hta inA_X5 hown hK hP 0 rfl rfl 20 (by decide) (hta _ aw_531) (fun _ h9 => h9) rfl dX5_count_82 ?_
              exact W.iret (v := f5) hx hb hr (fun t ht hW => ⟨⟨f5, (0 : Int32), rfl, (by unfold mX5_count; rewrite [if_neg c_sw_0]; rewrite [if_neg c_sw_1]; rewrite [if_neg c_sw_2]; rewrite [if_neg c_sw_3]; rewrite [if_neg c_sw_4]; rewrite [if_pos c_sw_5]; (first | done | rfl)), by rw [ht]; exact hP, va_K.moved hW.alike hK, hD⟩, hS.F ht⟩) hS.2.2 dX5_count_85
            · by_cases c_sw_6 : p0 = 6
              · refine lv_tableIn (tgt := 86) hx hb dX5_count_6 (by rw [c_sw_6]; decide) (by rw [c_sw_6]; decide) (by rw [c_sw_6]; rfl) (by decide) ?_
                refine lv_aload_n hx hb dX5_count_86 rfl (lv_at hl 0 rfl) ?_
                refine va_get (D := (dC, dI)) (ci := 5) (v := .int f6) (C := RX5) (T := TX5) (N := 30) hx hb hta inA_X5 hown hK hP 0 rfl rfl 21 (by decide) (hta _ aw_532) (fun _ h9 => h9) rfl dX5_count_87 ?_
                exact W.iret (v := f6) hx hb hr (fun t ht hW => ⟨⟨f6, (0 : Int32), rfl, (by unfold mX5_count; rewrite [if_neg c_sw_0]; rewrite [if_neg c_sw_1]; rewrite [if_neg c_sw_2]; rewrite [if_neg c_sw_3]; rewrite [if_neg c_sw_4]; rewrite [if_neg c_sw_5]; rewrite [if_pos c_sw_6]; (first | done | rfl)), by rw [ht]; exact hP, va_K.moved hW.alike hK, hD⟩, hS.F ht⟩) hS.2.2 dX5_count_90
              · by_cases c_sw_7 : p0 = 7
                · refine lv_tableIn (tgt := 91) hx hb dX5_count_6 (by rw [c_sw_7]; decide) (by rw [c_sw_7]; decide) (by rw [c_sw_7]; rfl) (by decide) ?_
                  refine lv_aload_n hx hb dX5_count_91 rfl (lv_at hl 0 rfl) ?_
                  refine va_get (D := (dC, dI)) (ci := 5) (v := .int f7) (C := RX5) (T := TX5) (N := 30) hx hb hta inA_X5 hown hK hP 0 rfl rfl 22 (by decide) (hta _ aw_533) (fun _ h9 => h9) rfl dX5_count_92 ?_
                  exact W.iret (v := f7) hx hb hr (fun t ht hW => ⟨⟨f7, (0 : Int32), rfl, (by unfold mX5_count; rewrite [if_neg c_sw_0]; rewrite [if_neg c_sw_1]; rewrite [if_neg c_sw_2]; rewrite [if_neg c_sw_3]; rewrite [if_neg c_sw_4]; rewrite [if_neg c_sw_5]; rewrite [if_neg c_sw_6]; rewrite [if_pos c_sw_7]; (first | done | rfl)), by rw [ht]; exact hP, va_K.moved hW.alike hK, hD⟩, hS.F ht⟩) hS.2.2 dX5_count_95
                · by_cases c_sw_8 : p0 = 8
                  · refine lv_tableIn (tgt := 96) hx hb dX5_count_6 (by rw [c_sw_8]; decide) (by rw [c_sw_8]; decide) (by rw [c_sw_8]; rfl) (by decide) ?_
                    refine lv_aload_n hx hb dX5_count_96 rfl (lv_at hl 0 rfl) ?_
                    refine va_get (D := (dC, dI)) (ci := 5) (v := .int f14) (C := RX5) (T := TX5) (N := 30) hx hb hta inA_X5 hown hK hP 0 rfl rfl 23 (by decide) (hta _ aw_534) (fun _ h9 => h9) rfl dX5_count_97 ?_
                    exact W.iret (v := f14) hx hb hr (fun t ht hW => ⟨⟨f14, (0 : Int32), rfl, (by unfold mX5_count; rewrite [if_neg c_sw_0]; rewrite [if_neg c_sw_1]; rewrite [if_neg c_sw_2]; rewrite [if_neg c_sw_3]; rewrite [if_neg c_sw_4]; rewrite [if_neg c_sw_5]; rewrite [if_neg c_sw_6]; rewrite [if_neg c_sw_7]; rewrite [if_pos c_sw_8]; (first | done | rfl)), by rw [ht]; exact hP, va_K.moved hW.alike hK, hD⟩, hS.F ht⟩) hS.2.2 dX5_count_100
                  · refine lv_tableOut (tgt := 101) hx hb dX5_count_6 (cx_swout (x := p0) 8 (by decide) (fun j hj => match j, hj with | 0, _ => c_sw_0 | 1, _ => c_sw_1 | 2, _ => c_sw_2 | 3, _ => c_sw_3 | 4, _ => c_sw_4 | 5, _ => c_sw_5 | 6, _ => c_sw_6 | 7, _ => c_sw_7 | 8, _ => c_sw_8 | q + 9, h => absurd h (by omega))) (by decide) ?_
                    refine lv_iconst (v := (-1)) hx hb dX5_count_101 (by decide) ?_
                    exact W.iret (v := (-1 : Int32)) hx hb hr (fun t ht hW => ⟨⟨(-1 : Int32), (0 : Int32), rfl, (by unfold mX5_count; rewrite [if_neg c_sw_0]; rewrite [if_neg c_sw_1]; rewrite [if_neg c_sw_2]; rewrite [if_neg c_sw_3]; rewrite [if_neg c_sw_4]; rewrite [if_neg c_sw_5]; rewrite [if_neg c_sw_6]; rewrite [if_neg c_sw_7]; rewrite [if_neg c_sw_8]; (first | done | rfl)), by rw [ht]; exact hP, va_K.moved hW.alike hK, hD⟩, hS.F ht⟩) hS.2.2 dX5_count_102
