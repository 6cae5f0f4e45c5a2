/-- PageRows.walk -/
def mX4_walk (N : Nat) (L : Nat) (f1 : Int32) (f4 : Int32) (f5 : Int32) (f6 : Int32) (f7 : Int32) (f8 : Int32) (rd : Nat) (f10 : Int32) (f11 : Int32) (f12 : Int32) (n : Nat) (f14 : Int32) (lf : Int64) (wd : Nat → Int64) (ho : Nat → Int32) (ro : Nat → Int32) (pa : Nat → Int32) (rs : Nat → Option Nat) (E : Nat → Nat → Int32) (p0 : Int32) (p1 : Int32) : Nat ⊕ (Int32 × Int32 × Int32 × Int32 × Int32 × Int32 × Int32 × Nat × Int32 × Int32 × Int32 × Nat × Int32 × Int64 × (Nat → Int64) × (Nat → Int32) × (Nat → Option Nat) × (Nat → Nat → Int32)) :=
  if (mX4_isKind p1) = 0 then
    .inl 1
  else
    match (mFind rs E f1 p0 n 0) with
    | none =>
      match mX4_translateByTables N L f1 f4 f6 f7 f8 f10 n f14 lf wd ho ro pa rs E p0 p1 with
      | (r_7, f2_7, f3_7, f4_7, f6_7, f7_7, rd_7, f10_7, f11_7, f12_7, n_7, f14_7, lf_7, wd_7, pa_7, rs_7, E_7) =>
        .inr (r_7, f2_7, f3_7, f4_7, f5, f6_7, f7_7, rd_7, f10_7, f11_7, f12_7, n_7, f14_7, lf_7, wd_7, pa_7, rs_7, E_7)
    | some jf_5 =>
      if (nI jf_5) = (-1 : Int32) then
        match mX4_translateByTables N L f1 f4 f6 f7 f8 f10 n f14 lf wd ho ro pa rs E p0 p1 with
        | (r_9, f2_9, f3_9, f4_9, f6_9, f7_9, rd_9, f10_9, f11_9, f12_9, n_9, f14_9, lf_9, wd_9, pa_9, rs_9, E_9) =>
          .inr (r_9, f2_9, f3_9, f4_9, f5, f6_9, f7_9, rd_9, f10_9, f11_9, f12_9, n_9, f14_9, lf_9, wd_9, pa_9, rs_9, E_9)
      else
        if (mX4_needsChangedMark E (rowA rs jf_5) p1) = 0 then
          match mX4_translateByEntry L f5 f7 f8 ho rs E jf_5 p0 p1 with
          | (r_12, f2_12, f3_12, f5_12, f7_12, rs_12) =>
            .inr (r_12, f2_12, f3_12, f4, f5_12, f6, f7_12, rd, f10, f11, f12, n, f14, lf, wd, pa, rs_12, E)
        else
          match mX4_translateByTables N L f1 f4 f6 f7 f8 f10 n f14 lf wd ho ro pa rs E p0 p1 with
          | (r_13, f2_13, f3_13, f4_13, f6_13, f7_13, rd_13, f10_13, f11_13, f12_13, n_13, f14_13, lf_13, wd_13, pa_13, rs_13, E_13) =>
            .inr (r_13, f2_13, f3_13, f4_13, f5, f6_13, f7_13, rd_13, f10_13, f11_13, f12_13, n_13, f14_13, lf_13, wd_13, pa_13, rs_13, E_13)
set_option maxHeartbeats 4000000 in
set_option maxRecDepth 100000 in
theorem c_X4_walk (l : Launch) (hl9 : l.stackTraces = false) (dC : Nat → ClassId) (dI : Nat → Nat → Nat) (a : Nat → Nat) (k : Nat → ClassId) (LP : List Nat) (N : Nat) (L : Nat) (f1 f2 f3 f4 f5 f6 f7 f8 : Int32) (rd : Nat) (f10 f11 f12 : Int32) (n : Nat) (f14 : Int32) (lf : Int64) (wd : Nat → Int64) (ho ro pa : Nat → Int32) (rs : Nat → Option Nat) (E : Nat → Nat → Int32)  (sz : Nat) (p0 : Int32) (p1 : Int32) (hL1 : 1 ≤ L) (hL4 : L ≤ 4) (hho : HOK ho) (hf1 : vp_in f1 4) (hro : ¬ ro f1.toNatClampNeg < 0) (hn : n ≤ N) (h0N : 0 < N) (hN32 : N ≤ 32) (hrow : ∀ i, i < N → rs i = some (rowA rs i) ∧ rowA rs i ∈ LP) : vx_Met l yX4_walk (wX4_walk :: AW) ({ frames := 6, cells := 1, slots := 6, locals := 114 }) (va_Pc [.ref (a 0), .int p0, .int p1] (CPrX dC dI (CWl a k LP N L f1 f2 f3 f4 f5 f6 f7 f8 rd f10 f11 f12 n f14 lf wd ho ro pa rs E) [(k 0, .long), (k 1, .int), (k 2, .int), (k 3, .object "PageRows$Entry"), (k 4, .int)] sz)) (va_Qi (fun (r : Int32) (u : Int32 × Int32 × Int32 × Int32 × Int32 × Int32 × Nat × Int32 × Int32 × Int32 × Nat × Int32 × Int64 × (Nat → Int64) × (Nat → Int32) × (Nat → Option Nat) × (Nat → Nat → Int32)) => .inr (r, u) = mX4_walk N L f1 f4 f5 f6 f7 f8 rd f10 f11 f12 n f14 lf wd ho ro pa rs E p0 p1) (fun (u : Int32 × Int32 × Int32 × Int32 × Int32 × Int32 × Nat × Int32 × Int32 × Int32 × Nat × Int32 × Int64 × (Nat → Int64) × (Nat → Int32) × (Nat → Option Nat) × (Nat → Nat → Int32)) (t : State) => match u with | (f2', f3', f4', f5', f6', f7', rd', f10', f11', f12', n', f14', lf', wd', pa', rs', E') => va_P (dC, dI) vwCl (CWl a k LP N L f1 f2' f3' f4' f5' f6' f7' f8 rd' f10' f11' f12' n' f14' lf' wd' ho ro pa' rs' E') t.heap ∧ va_K (dC, dI) vwCl [(k 0, .long), (k 1, .int), (k 2, .int), (k 3, .object "PageRows$Entry"), (k 4, .int)] t ∧ va_D (va_A (CWl a k LP N L f1 f2 f3 f4 f5 f6 f7 f8 rd f10 f11 f12 n f14 lf wd ho ro pa rs E) sz) (CWl a k LP N L f1 f2' f3' f4' f5' f6' f7' f8 rd' f10' f11' f12' n' f14' lf' wd' ho ro pa' rs' E')) (va_A (CWl a k LP N L f1 f2 f3 f4 f5 f6 f7 f8 rd f10 f11 f12 n f14 lf wd ho ro pa rs E) sz)) (vx_X (fun u : Nat => .inl u = mX4_walk N L f1 f4 f5 f6 f7 f8 rd f10 f11 f12 n f14 lf wd ho ro pa rs E p0 p1) (fun (E9 : String) (u : Nat) (t : State) => E9 = excN u ∧ va_P (dC, dI) vwCl (CWl a k LP N L f1 f2 f3 f4 f5 f6 f7 f8 rd f10 f11 f12 n f14 lf wd ho ro pa rs E) t.heap ∧ va_K (dC, dI) vwCl [(k 0, .long), (k 1, .int), (k 2, .int), (k 3, .object "PageRows$Entry"), (k 4, .int)] t ∧ va_D (va_A (CWl a k LP N L f1 f2 f3 f4 f5 f6 f7 f8 rd f10 f11 f12 n f14 lf wd ho ro pa rs E) sz) (CWl a k LP N L f1 f2 f3 f4 f5 f6 f7 f8 rd f10 f11 f12 n f14 lf wd ho ro pa rs E)) (va_A (CWl a k LP N L f1 f2 f3 f4 f5 f6 f7 f8 rd f10 f11 f12 n f14 lf wd ho ro pa rs E) sz)) 1 6 (va_A (CWl a k LP N L f1 f2 f3 f4 f5 f6 f7 f8 rd f10 f11 f12 n f14 lf wd ho ro pa rs E) sz) := by
  refine cx_ofX (cc := cX4_walk) (maxL := 4) (ret := some .int) (by decide) rfl (Nat.le_of_ble_eq_true rfl) ?_
  intro p e s m below meth c ls hx hb hr hts hown hlocks hml hEx hl hB
  have hta : ∀ w ∈ AW, w.before [.ref (a 0), .int p0, .int p1].toArray s = true := fun w h => hts w (List.mem_cons_of_mem _ h)
  have hl : lv_has ls 4 [(0, .ref (a 0)), (1, .int p0), (2, .int p1)] := hl
  have hown : s.vm.findClass RX4 = some m.cls := hown
  obtain ⟨⟨rfl, ⟨hP, hK, hN⟩, hD0⟩, hXW, hXZ⟩ := hB
  have hD := hD0.self (sz := s.heap.size)
  generalize hAe : va_A (CWl a k LP N L f1 f2 f3 f4 f5 f6 f7 f8 rd f10 f11 f12 n f14 lf wd ho ro pa rs E) s.heap.size = A at hD hXZ ⊢
  have hA : ∀ q : Nat, s.heap.size ≤ q → A q := fun q h => by rw [← hAe]; exact Or.inr h
  have hS : va_S A s.heap s.heap [] := va_S.rf
  refine lv_iload_n hx hb dX4_walk_0 rfl (lv_at hl 2 rfl) ?_
  refine cx_callSi (va_runS (As := [.int p1]) (rest := []) ⟨hx, hb, hml, hown, hta⟩ (c_X4_isKind l p1) (va_cwS 1 hta (gS aw_358 aw_359 aw_38 aw_360) rfl rfl rfl (by decide +kernel) ⟨Nat.le_of_ble_eq_true rfl, Nat.le_of_ble_eq_true rfl⟩) cx_pre0 rfl rfl hl.1 rfl (lv_room (Nat.le_of_ble_eq_true rfl)) dX4_walk_1 ⟨Nat.le_of_ble_eq_true rfl, Nat.le_of_ble_eq_true rfl⟩) (fun r hw_1 => ?_)
  subst hw_1
  refine lv_if_ne (tgt := 17) hx hb dX4_walk_4 (by decide) (fun c_4_1 => ?_) (fun c_4_1 => ?_)
  · refine lv_aload_n hx hb dX4_walk_17 rfl (lv_at hl 0 rfl) ?_
    refine va_get (D := (dC, dI)) (ci := 4) (v := .ref (a 6)) (C := RX4) (T := TX4) (N := 12) hx hb hta inA_X4 hown hK hP 0 rfl rfl 3 (by decide) (hta _ aw_175) (fun _ h9 => h9) rfl dX4_walk_18 ?_
    refine lv_aload_n hx hb dX4_walk_21 rfl (lv_at hl 0 rfl) ?_
    refine va_get (D := (dC, dI)) (ci := 4) (v := .int f1) (C := RX4) (T := TX4) (N := 12) hx hb hta inA_X4 hown hK hP 0 rfl rfl 5 (by decide) (hta _ aw_177) (fun _ h9 => h9) rfl dX4_walk_22 ?_
    refine lv_iload_n hx hb dX4_walk_25 rfl (lv_at hl 1 rfl) ?_
    refine cx_callSi (va_runVN (As := [.int f1, .int p0]) (rest := []) ⟨hx, hb, hml, hown, hta⟩ (c_X0_find l dC dI a k LP N L f1 f2 f3 f4 f5 f6 f7 f8 rd f10 f11 f12 n f14 lf wd ho ro pa rs E f1 p0 hn hN32 hrow) ⟨va_cnB 2 hta (gC aw_365) rfl rfl rfl (hN.nm 4 rfl) (hta _ aw_41) (by decide +kernel) ⟨Nat.le_of_ble_eq_true rfl, Nat.le_of_ble_eq_true rfl⟩, (hta _ aw_364), (hta _ aw_1)⟩ (cx_preVS hK hP hN (va_recv hK hP (ci := 0) (q0 := 6) rfl rfl)) rfl rfl hl.1 rfl (lv_room (Nat.le_of_ble_eq_true rfl)) dX4_walk_26 ⟨Nat.le_of_ble_eq_true rfl, Nat.le_of_ble_eq_true rfl⟩) (fun r hw_3 => ?_)
    subst hw_3
    rcases hfo_4 : (mFind rs E f1 p0 n 0) with _ | jf_5
    · dsimp only [optI]
      refine lv_istore_n (lv' := [(3, .int (-1 : Int32)), (0, .ref (a 0)), (1, .int p0), (2, .int p1)]) hx hb dX4_walk_29 rfl hl (by decide) rfl (fun ls hl => ?_)
      refine lv_iload_n hx hb dX4_walk_30 rfl (lv_at hl 0 rfl) ?_
      refine lv_iconst (v := (-1)) hx hb dX4_walk_31 (by decide) ?_
      refine lv_icmp_eq (tgt := 51) hx hb dX4_walk_32 (by decide) (fun c_32_5 => ?_) (fun c_32_5 => ?_)
      · refine lv_aload_n hx hb dX4_walk_51 rfl (lv_at hl 1 rfl) ?_
        refine lv_iload_n hx hb dX4_walk_52 rfl (lv_at hl 2 rfl) ?_
        refine lv_iload_n hx hb dX4_walk_53 rfl (lv_at hl 3 rfl) ?_
        have hFc : ∀ q, va_A (CWl a k LP N L f1 f2 f3 f4 f5 f6 f7 f8 rd f10 f11 f12 n f14 lf wd ho ro pa rs E) s.heap.size q → A q := cx_free hD hS hA
        refine va_calli (va_runV (As := [.int p0, .int p1]) (rest := []) ⟨hx, hb, hml, hown, hta⟩ (c_X4_translateByTables l dC dI a k LP N L f1 f2 f3 f4 f5 f6 f7 f8 rd f10 f11 f12 n f14 lf wd ho ro pa rs E s.heap.size p0 p1 hL1 hL4 hho hf1 hro hn h0N hN32 hrow) (cwV 2 hta (gV aw_382 aw_384 aw_3 aw_38 aw_385) rfl rfl rfl (by decide +kernel) ⟨Nat.le_of_ble_eq_true rfl, Nat.le_of_ble_eq_true rfl⟩) (cx_preVQ hK hP hN (va_recv hK hP (ci := 4) (q0 := 0) rfl rfl) hD) rfl rfl hl.1 rfl (lv_room (Nat.le_of_ble_eq_true rfl)) dX4_walk_54 ⟨Nat.le_of_ble_eq_true rfl, Nat.le_of_ble_eq_true rfl⟩) hS (fun q _ h => hFc q h) hFc (fun r_7 u t9 H1 locs ht hvm hw_7 hB hz1 hk1 hS => ?_)
        obtain ⟨f2_7, f3_7, f4_7, f6_7, f7_7, rd_7, f10_7, f11_7, f12_7, n_7, f14_7, lf_7, wd_7, pa_7, rs_7, E_7⟩ := u
        obtain ⟨hP, hK1, hD1⟩ := hB
        rw [ht] at hP
        have hD := hD1.weaken (fun _ _ _ h => hFc _ h)
        clear hFc hz1 hk1 hK1 hD1 ht hvm
        generalize H1 = H at hP hS ⊢
        have hP : va_P (dC, dI) vwCl (CWl a k LP N L f1 f2_7 f3_7 f4_7 f5 f6_7 f7_7 f8 rd_7 f10_7 f11_7 f12_7 n_7 f14_7 lf_7 wd_7 ho ro pa_7 rs_7 E_7) H := hP
        have hD : va_D A (CWl a k LP N L f1 f2_7 f3_7 f4_7 f5 f6_7 f7_7 f8 rd_7 f10_7 f11_7 f12_7 n_7 f14_7 lf_7 wd_7 ho ro pa_7 rs_7 E_7) := hD
        refine vx_ret ?_
        refine W.widen (k := 1) (n := 6) (Nat.le_of_ble_eq_true rfl) (Nat.le_of_ble_eq_true rfl) ?_
        exact W.iret (v := r_7) hx hb hr (fun t ht hW => ⟨⟨r_7, (f2_7, f3_7, f4_7, f5, f6_7, f7_7, rd_7, f10_7, f11_7, f12_7, n_7, f14_7, lf_7, wd_7, pa_7, rs_7, E_7), rfl, (by unfold mX4_walk; rewrite [if_neg c_4_1]; rewrite [hfo_4]; (try dsimp only); rewrite [← hw_7]; (try dsimp only); (first | done | rfl)), by rw [ht]; exact hP, va_K.moved hW.alike hK, hD⟩, hS.F ht⟩) hS.2.2 dX4_walk_57
      · exact absurd (by decide) c_32_5
    · dsimp only [optI]
      have hlt_jf_5 : jf_5 < n := by have := mFind_lt _ _ _ _ _ _ _ hfo_4; omega
      refine lv_istore_n (lv' := [(3, .int (nI jf_5)), (0, .ref (a 0)), (1, .int p0), (2, .int p1)]) hx hb dX4_walk_29 rfl hl (by decide) rfl (fun ls hl => ?_)
      refine lv_iload_n hx hb dX4_walk_30 rfl (lv_at hl 0 rfl) ?_
      refine lv_iconst (v := (-1)) hx hb dX4_walk_31 (by decide) ?_
      refine lv_icmp_eq (tgt := 51) hx hb dX4_walk_32 (by decide) (fun c_32_7 => ?_) (fun c_32_7 => ?_)
      · refine lv_aload_n hx hb dX4_walk_51 rfl (lv_at hl 1 rfl) ?_
        refine lv_iload_n hx hb dX4_walk_52 rfl (lv_at hl 2 rfl) ?_
        refine lv_iload_n hx hb dX4_walk_53 rfl (lv_at hl 3 rfl) ?_
        have hFc : ∀ q, va_A (CWl a k LP N L f1 f2 f3 f4 f5 f6 f7 f8 rd f10 f11 f12 n f14 lf wd ho ro pa rs E) s.heap.size q → A q := cx_free hD hS hA
        refine va_calli (va_runV (As := [.int p0, .int p1]) (rest := []) ⟨hx, hb, hml, hown, hta⟩ (c_X4_translateByTables l dC dI a k LP N L f1 f2 f3 f4 f5 f6 f7 f8 rd f10 f11 f12 n f14 lf wd ho ro pa rs E s.heap.size p0 p1 hL1 hL4 hho hf1 hro hn h0N hN32 hrow) (cwV 2 hta (gV aw_382 aw_384 aw_3 aw_38 aw_385) rfl rfl rfl (by decide +kernel) ⟨Nat.le_of_ble_eq_true rfl, Nat.le_of_ble_eq_true rfl⟩) (cx_preVQ hK hP hN (va_recv hK hP (ci := 4) (q0 := 0) rfl rfl) hD) rfl rfl hl.1 rfl (lv_room (Nat.le_of_ble_eq_true rfl)) dX4_walk_54 ⟨Nat.le_of_ble_eq_true rfl, Nat.le_of_ble_eq_true rfl⟩) hS (fun q _ h => hFc q h) hFc (fun r_9 u t9 H1 locs ht hvm hw_9 hB hz1 hk1 hS => ?_)
        obtain ⟨f2_9, f3_9, f4_9, f6_9, f7_9, rd_9, f10_9, f11_9, f12_9, n_9, f14_9, lf_9, wd_9, pa_9, rs_9, E_9⟩ := u
        obtain ⟨hP, hK1, hD1⟩ := hB
        rw [ht] at hP
        have hD := hD1.weaken (fun _ _ _ h => hFc _ h)
        clear hFc hz1 hk1 hK1 hD1 ht hvm
        generalize H1 = H at hP hS ⊢
        have hP : va_P (dC, dI) vwCl (CWl a k LP N L f1 f2_9 f3_9 f4_9 f5 f6_9 f7_9 f8 rd_9 f10_9 f11_9 f12_9 n_9 f14_9 lf_9 wd_9 ho ro pa_9 rs_9 E_9) H := hP
        have hD : va_D A (CWl a k LP N L f1 f2_9 f3_9 f4_9 f5 f6_9 f7_9 f8 rd_9 f10_9 f11_9 f12_9 n_9 f14_9 lf_9 wd_9 ho ro pa_9 rs_9 E_9) := hD
        refine vx_ret ?_
        refine W.widen (k := 1) (n := 6) (Nat.le_of_ble_eq_true rfl) (Nat.le_of_ble_eq_true rfl) ?_
        exact W.iret (v := r_9) hx hb hr (fun t ht hW => ⟨⟨r_9, (f2_9, f3_9, f4_9, f5, f6_9, f7_9, rd_9, f10_9, f11_9, f12_9, n_9, f14_9, lf_9, wd_9, pa_9, rs_9, E_9), rfl, (by unfold mX4_walk; rewrite [if_neg c_4_1]; rewrite [hfo_4]; (try dsimp only); rewrite [if_pos c_32_7]; rewrite [← hw_9]; (try dsimp only); (first | done | rfl)), by rw [ht]; exact hP, va_K.moved hW.alike hK, hD⟩, hS.F ht⟩) hS.2.2 dX4_walk_57
      · refine lv_aload_n hx hb dX4_walk_35 rfl (lv_at hl 1 rfl) ?_
        refine va_get (D := (dC, dI)) (ci := 4) (v := .ref (a 6)) (C := RX4) (T := TX4) (N := 12) hx hb hta inA_X4 hown hK hP 0 rfl rfl 3 (by decide) (hta _ aw_175) (fun _ h9 => h9) rfl dX4_walk_36 ?_
        refine va_getN (D := (dC, dI)) (ci := 0) (v := .ref (a 7)) (C := RX0) (T := TX0) (N := 3) hx hb hta inA_X0 hown hK hP 6 rfl rfl 0 (by decide) (hN.nf 21 rfl) (fun _ h9 => h9) rfl dX4_walk_39 ?_
        refine lv_iload_n hx hb dX4_walk_42 rfl (lv_at hl 0 rfl) ?_
        refine cx_aald hx hb hK hP 7 3 rfl rfl (vp_in_nI (by omega) (by omega)) (by rw [nI_clamp (by omega)]; exact (hrow jf_5 (by omega)).1) dX4_walk_43 ?_
        refine lv_iload_n hx hb dX4_walk_44 rfl (lv_at hl 3 rfl) ?_
        refine cx_callSi (va_runS (As := [.ref (rowA rs jf_5), .int p1]) (rest := []) ⟨hx, hb, hml, hown, hta⟩ (c_X4_needsChangedMark l dC dI a k LP N L f1 f2 f3 f4 f5 f6 f7 f8 rd f10 f11 f12 n f14 lf wd ho ro pa rs E (rowA rs jf_5) ((hrow jf_5 (by omega)).2) p1) (va_cwS 2 hta (gS aw_373 aw_374 aw_38 aw_375) rfl rfl rfl (by decide +kernel) ⟨Nat.le_of_ble_eq_true rfl, Nat.le_of_ble_eq_true rfl⟩) (cx_preSS hK hP hN) rfl rfl hl.1 rfl (lv_room (Nat.le_of_ble_eq_true rfl)) dX4_walk_45 ⟨Nat.le_of_ble_eq_true rfl, Nat.le_of_ble_eq_true rfl⟩) (fun r hw_10 => ?_)
        subst hw_10
        refine lv_if_eq (tgt := 58) hx hb dX4_walk_48 (by decide) (fun c_48_10 => ?_) (fun c_48_10 => ?_)
        · refine lv_aload_n hx hb dX4_walk_58 rfl (lv_at hl 1 rfl) ?_
          refine lv_iload_n hx hb dX4_walk_59 rfl (lv_at hl 0 rfl) ?_
          refine lv_iload_n hx hb dX4_walk_60 rfl (lv_at hl 2 rfl) ?_
          refine lv_iload_n hx hb dX4_walk_61 rfl (lv_at hl 3 rfl) ?_
          have hFc : ∀ q, va_A (CWl a k LP N L f1 f2 f3 f4 f5 f6 f7 f8 rd f10 f11 f12 n f14 lf wd ho ro pa rs E) s.heap.size q → A q := cx_free hD hS hA
          refine va_calli (va_runV (As := [.int (nI jf_5), .int p0, .int p1]) (rest := []) ⟨hx, hb, hml, hown, hta⟩ (c_X4_translateByEntry l dC dI a k LP N L f1 f2 f3 f4 f5 f6 f7 f8 rd f10 f11 f12 n f14 lf wd ho ro pa rs E s.heap.size jf_5 p0 p1 (by omega) hn hN32 hrow) (cwV 3 hta (gV aw_452 aw_454 aw_16 aw_38 aw_455) rfl rfl rfl (by decide +kernel) ⟨Nat.le_of_ble_eq_true rfl, Nat.le_of_ble_eq_true rfl⟩) (cx_preVQ hK hP hN (va_recv hK hP (ci := 4) (q0 := 0) rfl rfl) hD) rfl rfl hl.1 rfl (lv_room (Nat.le_of_ble_eq_true rfl)) dX4_walk_62 ⟨Nat.le_of_ble_eq_true rfl, Nat.le_of_ble_eq_true rfl⟩) hS (fun q _ h => hFc q h) hFc (fun r_12 u t9 H1 locs ht hvm hw_12 hB hz1 hk1 hS => ?_)
          obtain ⟨f2_12, f3_12, f5_12, f7_12, rs_12⟩ := u
          obtain ⟨hP, hK1, hD1⟩ := hB
          rw [ht] at hP
          have hD := hD1.weaken (fun _ _ _ h => hFc _ h)
          clear hFc hz1 hk1 hK1 hD1 ht hvm
          generalize H1 = H at hP hS ⊢
          have hP : va_P (dC, dI) vwCl (CWl a k LP N L f1 f2_12 f3_12 f4 f5_12 f6 f7_12 f8 rd f10 f11 f12 n f14 lf wd ho ro pa rs_12 E) H := hP
          have hD : va_D A (CWl a k LP N L f1 f2_12 f3_12 f4 f5_12 f6 f7_12 f8 rd f10 f11 f12 n f14 lf wd ho ro pa rs_12 E) := hD
          refine vx_ret ?_
          refine W.widen (k := 1) (n := 6) (Nat.le_of_ble_eq_true rfl) (Nat.le_of_ble_eq_true rfl) ?_
          exact W.iret (v := r_12) hx hb hr (fun t ht hW => ⟨⟨r_12, (f2_12, f3_12, f4, f5_12, f6, f7_12, rd, f10, f11, f12, n, f14, lf, wd, pa, rs_12, E), rfl, (by unfold mX4_walk; rewrite [if_neg c_4_1]; rewrite [hfo_4]; (try dsimp only); rewrite [if_neg c_32_7]; rewrite [if_pos c_48_10]; rewrite [← hw_12]; (try dsimp only); (first | done | rfl)), by rw [ht]; exact hP, va_K.moved hW.alike hK, hD⟩, hS.F ht⟩) hS.2.2 dX4_walk_65
        · refine lv_aload_n hx hb dX4_walk_51 rfl (lv_at hl 1 rfl) ?_
          refine lv_iload_n hx hb dX4_walk_52 rfl (lv_at hl 2 rfl) ?_
          refine lv_iload_n hx hb dX4_walk_53 rfl (lv_at hl 3 rfl) ?_
          have hFc : ∀ q, va_A (CWl a k LP N L f1 f2 f3 f4 f5 f6 f7 f8 rd f10 f11 f12 n f14 lf wd ho ro pa rs E) s.heap.size q → A q := cx_free hD hS hA
          refine va_calli (va_runV (As := [.int p0, .int p1]) (rest := []) ⟨hx, hb, hml, hown, hta⟩ (c_X4_translateByTables l dC dI a k LP N L f1 f2 f3 f4 f5 f6 f7 f8 rd f10 f11 f12 n f14 lf wd ho ro pa rs E s.heap.size p0 p1 hL1 hL4 hho hf1 hro hn h0N hN32 hrow) (cwV 2 hta (gV aw_382 aw_384 aw_3 aw_38 aw_385) rfl rfl rfl (by decide +kernel) ⟨Nat.le_of_ble_eq_true rfl, Nat.le_of_ble_eq_true rfl⟩) (cx_preVQ hK hP hN (va_recv hK hP (ci := 4) (q0 := 0) rfl rfl) hD) rfl rfl hl.1 rfl (lv_room (Nat.le_of_ble_eq_true rfl)) dX4_walk_54 ⟨Nat.le_of_ble_eq_true rfl, Nat.le_of_ble_eq_true rfl⟩) hS (fun q _ h => hFc q h) hFc (fun r_13 u t9 H1 locs ht hvm hw_13 hB hz1 hk1 hS => ?_)
          obtain ⟨f2_13, f3_13, f4_13, f6_13, f7_13, rd_13, f10_13, f11_13, f12_13, n_13, f14_13, lf_13, wd_13, pa_13, rs_13, E_13⟩ := u
          obtain ⟨hP, hK1, hD1⟩ := hB
          rw [ht] at hP
          have hD := hD1.weaken (fun _ _ _ h => hFc _ h)
          clear hFc hz1 hk1 hK1 hD1 ht hvm
          generalize H1 = H at hP hS ⊢
          have hP : va_P (dC, dI) vwCl (CWl a k LP N L f1 f2_13 f3_13 f4_13 f5 f6_13 f7_13 f8 rd_13 f10_13 f11_13 f12_13 n_13 f14_13 lf_13 wd_13 ho ro pa_13 rs_13 E_13) H := hP
          have hD : va_D A (CWl a k LP N L f1 f2_13 f3_13 f4_13 f5 f6_13 f7_13 f8 rd_13 f10_13 f11_13 f12_13 n_13 f14_13 lf_13 wd_13 ho ro pa_13 rs_13 E_13) := hD
          refine vx_ret ?_
          refine W.widen (k := 1) (n := 6) (Nat.le_of_ble_eq_true rfl) (Nat.le_of_ble_eq_true rfl) ?_
          exact W.iret (v := r_13) hx hb hr (fun t ht hW => ⟨⟨r_13, (f2_13, f3_13, f4_13, f5, f6_13, f7_13, rd_13, f10_13, f11_13, f12_13, n_13, f14_13, lf_13, wd_13, pa_13, rs_13, E_13), rfl, (by unfold mX4_walk; rewrite [if_neg c_4_1]; rewrite [hfo_4]; (try dsimp only); rewrite [if_neg c_32_7]; rewrite [if_neg c_48_10]; rewrite [← hw_13]; (try dsimp only); (first | done | rfl)), by rw [ht]; exact hP, va_K.moved hW.alike hK, hD⟩, hS.F ht⟩) hS.2.2 dX4_walk_57
  · exact cx_throwA hx hb hl9 hown hta aw_326 aw_48 (List.mem_of_getElem? (i := 4) rfl) hXW hXZ hS hl hml dX4_walk_7 dX4_walk_10 dX4_walk_11 dX4_walk_13 dX4_walk_16 hEx (Nat.le_of_ble_eq_true rfl) (Nat.le_of_ble_eq_true rfl) (Nat.le_of_ble_eq_true rfl) (Nat.le_of_ble_eq_true rfl) hlocks hS.2.2 (Nat.le_of_ble_eq_true rfl) (Nat.le_of_ble_eq_true rfl) (fun t ha hsz hk => ⟨1, (by unfold mX4_walk; rewrite [if_pos c_4_1]; (first | done | rfl)), ⟨rfl, hP.kept (fun k q hq => hk q.1 (hP k q hq).lt), va_K.moved ha hK, hD⟩, Nat.le_trans hS.1 hsz, fun q h1 h2 => (hk q (Nat.lt_of_lt_of_le h1 hS.1)).trans (hS.2.1 q h1 h2)⟩)
theorem cx_clt {x : Int32} {n : Nat} (h0 : ¬ x < 0) (h1 : x < nI n) (hn : n < 2 ^ 31) : x.toNatClampNeg < n := by
  obtain ⟨j, hj, rfl⟩ := vp_in_of (cx_inl (n := n) h0 h1 rfl hn) hn
  rw [nI_clamp (by omega)]
  exact hj
theorem cx_inN {x : Int32} {n N : Nat} (h0 : ¬ x < 0) (h1 : x < nI n) (hn : n ≤ N) (hN : N < 2 ^ 31) : vp_in x N := by
  obtain ⟨j, hj, rfl⟩ := vp_in_of (cx_inl (n := n) h0 h1 rfl (by omega)) (by omega)
  exact vp_in_nI (by omega) hN
/-- PageRows.kept -/
def mX4_kept (n : Nat) (rs : Nat → Option Nat) (E : Nat → Nat → Int32) (p0 : Int32) (p1 : Int32) : Nat ⊕ Int32 :=
  if p0 < 0 then
    .inl 0
  else
    if p0 < (nI n) then
      if p1 < 0 then
        .inl 0
      else
        if p1 < (6 : Int32) then
          .inr (mX1_part E (rowA rs p0.toNatClampNeg) p1)
        else
          .inl 0
    else
      .inl 0
set_option maxHeartbeats 4000000 in
set_option maxRecDepth 100000 in
theorem c_X4_kept (l : Launch) (hl9 : l.stackTraces = false) (dC : Nat → ClassId) (dI : Nat → Nat → Nat) (a : Nat → Nat) (k : Nat → ClassId) (LP : List Nat) (N : Nat) (L : Nat) (f1 f2 f3 f4 f5 f6 f7 f8 : Int32) (rd : Nat) (f10 f11 f12 : Int32) (n : Nat) (f14 : Int32) (lf : Int64) (wd : Nat → Int64) (ho ro pa : Nat → Int32) (rs : Nat → Option Nat) (E : Nat → Nat → Int32)  (sz : Nat) (p0 : Int32) (p1 : Int32) (hn : n ≤ N) (hN32 : N ≤ 32) (hrow : ∀ i, i < N → rs i = some (rowA rs i) ∧ rowA rs i ∈ LP) : vx_Met l yX4_kept (wX4_kept :: AW) ({ frames := 6, cells := 1, slots := 6, locals := 91 }) (va_Pc [.ref (a 0), .int p0, .int p1] (CPrX dC dI (CWl a k LP N L f1 f2 f3 f4 f5 f6 f7 f8 rd f10 f11 f12 n f14 lf wd ho ro pa rs E) [(k 0, .long), (k 1, .int), (k 2, .int), (k 3, .object "PageRows$Entry"), (k 4, .int)] sz)) (va_Qi (fun (r : Int32) (u : Unit) => .inr r = mX4_kept n rs E p0 p1) (fun (u : Unit) (t : State) => match u with | _ => va_P (dC, dI) vwCl (CWl a k LP N L f1 f2 f3 f4 f5 f6 f7 f8 rd f10 f11 f12 n f14 lf wd ho ro pa rs E) t.heap ∧ va_K (dC, dI) vwCl [(k 0, .long), (k 1, .int), (k 2, .int), (k 3, .object "PageRows$Entry"), (k 4, .int)] t ∧ va_D (va_A (CWl a k LP N L f1 f2 f3 f4 f5 f6 f7 f8 rd f10 f11 f12 n f14 lf wd ho ro pa rs E) sz) (CWl a k LP N L f1 f2 f3 f4 f5 f6 f7 f8 rd f10 f11 f12 n f14 lf wd ho ro pa rs E)) (va_A (CWl a k LP N L f1 f2 f3 f4 f5 f6 f7 f8 rd f10 f11 f12 n f14 lf wd ho ro pa rs E) sz)) (vx_X (fun u : Nat => .inl u = mX4_kept n rs E p0 p1) (fun (E9 : String) (u : Nat) (t : State) => E9 = excN u ∧ va_P (dC, dI) vwCl (CWl a k LP N L f1 f2 f3 f4 f5 f6 f7 f8 rd f10 f11 f12 n f14 lf wd ho ro pa rs E) t.heap ∧ va_K (dC, dI) vwCl [(k 0, .long), (k 1, .int), (k 2, .int), (k 3, .object "PageRows$Entry"), (k 4, .int)] t ∧ va_D (va_A (CWl a k LP N L f1 f2 f3 f4 f5 f6 f7 f8 rd f10 f11 f12 n f14 lf wd ho ro pa rs E) sz) (CWl a k LP N L f1 f2 f3 f4 f5 f6 f7 f8 rd f10 f11 f12 n f14 lf wd ho ro pa rs E)) (va_A (CWl a k LP N L f1 f2 f3 f4 f5 f6 f7 f8 rd f10 f11 f12 n f14 lf wd ho ro pa rs E) sz)) 1 6 (va_A (CWl a k LP N L f1 f2 f3 f4 f5 f6 f7 f8 rd f10 f11 f12 n f14 lf wd ho ro pa rs E) sz) := by
  refine cx_ofX (cc := cX4_kept) (maxL := 3) (ret := some .int) (by decide) rfl (Nat.le_of_ble_eq_true rfl) ?_
  intro p e s m below meth c ls hx hb hr hts hown hlocks hml hEx hl hB
  have hta : ∀ w ∈ AW, w.before [.ref (a 0), .int p0, .int p1].toArray s = true := fun w h => hts w (List.mem_cons_of_mem _ h)
  have hl : lv_has ls 3 [(0, .ref (a 0)), (1, .int p0), (2, .int p1)] := hl
  have hown : s.vm.findClass RX4 = some m.cls := hown
  obtain ⟨⟨rfl, ⟨hP, hK, hN⟩, hD0⟩, hXW, hXZ⟩ := hB
  have hD := hD0.self (sz := s.heap.size)
  generalize hAe : va_A (CWl a k LP N L f1 f2 f3 f4 f5 f6 f7 f8 rd f10 f11 f12 n f14 lf wd ho ro pa rs E) s.heap.size = A at hD hXZ ⊢
  have hA : ∀ q : Nat, s.heap.size ≤ q → A q := fun q h => by rw [← hAe]; exact Or.inr h
  have hS : va_S A s.heap s.heap [] := va_S.rf
  refine lv_iload_n hx hb dX4_kept_0 rfl (lv_at hl 1 rfl) ?_
  refine lv_if_lt (tgt := 15) hx hb dX4_kept_1 (by decide) (fun c_1_0 => ?_) (fun c_1_0 => ?_)
  · exact cx_throwI hx hb hl9 hown hta aw_236 aw_47 (List.mem_of_getElem? (i := 6) rfl) hXW hXZ hS hl hml dX4_kept_15 dX4_kept_18 dX4_kept_19 dX4_kept_21 dX4_kept_24 hEx (Nat.le_of_ble_eq_true rfl) (Nat.le_of_ble_eq_true rfl) (Nat.le_of_ble_eq_true rfl) (Nat.le_of_ble_eq_true rfl) hlocks hS.2.2 (Nat.le_of_ble_eq_true rfl) (Nat.le_of_ble_eq_true rfl) (fun t ha hsz hk => ⟨0, (by unfold mX4_kept; rewrite [if_pos c_1_0]; (first | done | rfl)), ⟨rfl, hP.kept (fun k q hq => hk q.1 (hP k q hq).lt), va_K.moved ha hK, hD⟩, Nat.le_trans hS.1 hsz, fun q h1 h2 => (hk q (Nat.lt_of_lt_of_le h1 hS.1)).trans (hS.2.1 q h1 h2)⟩)
  · refine lv_iload_n hx hb dX4_kept_4 rfl (lv_at hl 1 rfl) ?_
    refine lv_aload_n hx hb dX4_kept_5 rfl (lv_at hl 0 rfl) ?_
    refine va_get (D := (dC, dI)) (ci := 4) (v := .ref (a 6)) (C := RX4) (T := TX4) (N := 12) hx hb hta inA_X4 hown hK hP 0 rfl rfl 3 (by decide) (hta _ aw_175) (fun _ h9 => h9) rfl dX4_kept_6 ?_
    refine va_getN (D := (dC, dI)) (ci := 0) (v := .int (nI n)) (C := RX0) (T := TX0) (N := 3) hx hb hta inA_X0 hown hK hP 6 rfl rfl 1 (by decide) (hN.nf 22 rfl) (fun _ h9 => h9) rfl dX4_kept_9 ?_
    refine lv_icmp_lt (tgt := 25) hx hb dX4_kept_12 (by decide) (fun c_12_1 => ?_) (fun c_12_1 => ?_)
    · refine lv_iload_n hx hb dX4_kept_25 rfl (lv_at hl 2 rfl) ?_
      refine lv_if_lt (tgt := 35) hx hb dX4_kept_26 (by decide) (fun c_26_2 => ?_) (fun c_26_2 => ?_)
      · exact cx_throwI hx hb hl9 hown hta aw_236 aw_47 (List.mem_of_getElem? (i := 7) rfl) hXW hXZ hS hl hml dX4_kept_35 dX4_kept_38 dX4_kept_39 dX4_kept_41 dX4_kept_44 hEx (Nat.le_of_ble_eq_true rfl) (Nat.le_of_ble_eq_true rfl) (Nat.le_of_ble_eq_true rfl) (Nat.le_of_ble_eq_true rfl) hlocks hS.2.2 (Nat.le_of_ble_eq_true rfl) (Nat.le_of_ble_eq_true rfl) (fun t ha hsz hk => ⟨0, (by unfold mX4_kept; rewrite [if_neg c_1_0]; rewrite [if_pos c_12_1]; rewrite [if_pos c_26_2]; (first | done | rfl)), ⟨rfl, hP.kept (fun k q hq => hk q.1 (hP k q hq).lt), va_K.moved ha hK, hD⟩, Nat.le_trans hS.1 hsz, fun q h1 h2 => (hk q (Nat.lt_of_lt_of_le h1 hS.1)).trans (hS.2.1 q h1 h2)⟩)
      · refine lv_iload_n hx hb dX4_kept_29 rfl (lv_at hl 2 rfl) ?_
        refine lv_bipush (v := 6) hx hb dX4_kept_30 (by decide) ?_
        refine lv_icmp_lt (tgt := 45) hx hb dX4_kept_32 (by decide) (fun c_32_3 => ?_) (fun c_32_3 => ?_)
        · have hlt9 : p0.toNatClampNeg < n := cx_clt c_1_0 c_12_1 (by omega)
          refine lv_aload_n hx hb dX4_kept_45 rfl (lv_at hl 0 rfl) ?_
          refine va_get (D := (dC, dI)) (ci := 4) (v := .ref (a 6)) (C := RX4) (T := TX4) (N := 12) hx hb hta inA_X4 hown hK hP 0 rfl rfl 3 (by decide) (hta _ aw_175) (fun _ h9 => h9) rfl dX4_kept_46 ?_
          refine va_getN (D := (dC, dI)) (ci := 0) (v := .ref (a 7)) (C := RX0) (T := TX0) (N := 3) hx hb hta inA_X0 hown hK hP 6 rfl rfl 0 (by decide) (hN.nf 21 rfl) (fun _ h9 => h9) rfl dX4_kept_49 ?_
          refine lv_iload_n hx hb dX4_kept_52 rfl (lv_at hl 1 rfl) ?_
          refine cx_aald hx hb hK hP 7 3 rfl rfl (cx_inN c_1_0 c_12_1 hn (by omega)) (hrow _ (Nat.lt_of_lt_of_le hlt9 hn)).1 dX4_kept_53 ?_
          refine lv_iload_n hx hb dX4_kept_54 rfl (lv_at hl 2 rfl) ?_
          refine cx_callSi (va_runVN (As := [.int p1]) (rest := []) ⟨hx, hb, hml, hown, hta⟩ (c_X1_part l dC dI a k LP N L f1 f2 f3 f4 f5 f6 f7 f8 rd f10 f11 f12 n f14 lf wd ho ro pa rs E (rowA rs p0.toNatClampNeg) ((hrow _ (Nat.lt_of_lt_of_le hlt9 hn)).2) p1) ⟨va_cnB 1 hta (gC aw_492) rfl rfl rfl (hN.nm 23 rfl) (hta _ aw_42) (by decide +kernel) ⟨Nat.le_of_ble_eq_true rfl, Nat.le_of_ble_eq_true rfl⟩, (hta _ aw_491), (hta _ aw_18)⟩ (cx_preVS hK hP hN (cx_recvP (ci := 1) hK hP (hrow _ (Nat.lt_of_lt_of_le hlt9 hn)).2 rfl rfl)) rfl rfl hl.1 rfl (lv_room (Nat.le_of_ble_eq_true rfl)) dX4_kept_55 ⟨Nat.le_of_ble_eq_true rfl, Nat.le_of_ble_eq_true rfl⟩) (fun r hw_5 => ?_)
          subst hw_5
          refine vx_ret ?_
          refine W.widen (k := 1) (n := 6) (Nat.le_of_ble_eq_true rfl) (Nat.le_of_ble_eq_true rfl) ?_
          exact W.iret (v := mX1_part E (rowA rs p0.toNatClampNeg) p1) hx hb hr (fun t ht hW => ⟨⟨mX1_part E (rowA rs p0.toNatClampNeg) p1, (), rfl, (by unfold mX4_kept; rewrite [if_neg c_1_0]; rewrite [if_pos c_12_1]; rewrite [if_neg c_26_2]; rewrite [if_pos c_32_3]; (first | done | rfl)), by rw [ht]; exact hP, va_K.moved hW.alike hK, hD⟩, hS.F ht⟩) hS.2.2 dX4_kept_58
        · exact cx_throwI hx hb hl9 hown hta aw_236 aw_47 (List.mem_of_getElem? (i := 7) rfl) hXW hXZ hS hl hml dX4_kept_35 dX4_kept_38 dX4_kept_39 dX4_kept_41 dX4_kept_44 hEx (Nat.le_of_ble_eq_true rfl) (Nat.le_of_ble_eq_true rfl) (Nat.le_of_ble_eq_true rfl) (Nat.le_of_ble_eq_true rfl) hlocks hS.2.2 (Nat.le_of_ble_eq_true rfl) (Nat.le_of_ble_eq_true rfl) (fun t ha hsz hk => ⟨0, (by unfold mX4_kept; rewrite [if_neg c_1_0]; rewrite [if_pos c_12_1]; rewrite [if_neg c_26_2]; rewrite [if_neg c_32_3]; (first | done | rfl)), ⟨rfl, hP.kept (fun k q hq => hk q.1 (hP k q hq).lt), va_K.moved ha hK, hD⟩, Nat.le_trans hS.1 hsz, fun q h1 h2 => (hk q (Nat.lt_of_lt_of_le h1 hS.1)).trans (hS.2.1 q h1 h2)⟩)
    · exact cx_throwI hx hb hl9 hown hta aw_236 aw_47 (List.mem_of_getElem? (i := 6) rfl) hXW hXZ hS hl hml dX4_kept_15 dX4_kept_18 dX4_kept_19 dX4_kept_21 dX4_kept_24 hEx (Nat.le_of_ble_eq_true rfl) (Nat.le_of_ble_eq_true rfl) (Nat.le_of_ble_eq_true rfl) (Nat.le_of_ble_eq_true rfl) hlocks hS.2.2 (Nat.le_of_ble_eq_true rfl) (Nat.le_of_ble_eq_true rfl) (fun t ha hsz hk => ⟨0, (by unfold mX4_kept; rewrite [if_neg c_1_0]; rewrite [if_neg c_12_1]; (first | done | rfl)), ⟨rfl, hP.kept (fun k q hq => hk q.1 (hP k q hq).lt), va_K.moved ha hK, hD⟩, Nat.le_trans hS.1 hsz, fun q h1 h2 => (hk q (Nat.lt_of_lt_of_le h1 hS.1)).trans (hS.2.1 q h1 h2)⟩)
