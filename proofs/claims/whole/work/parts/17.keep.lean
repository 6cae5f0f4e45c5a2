/-- PageRows$Entries.keep -/
def mX0_keep (N : Nat) (f10 : Int32) (n : Nat) (f14 : Int32) (lf : Int64) (rs : Nat → Option Nat) (E : Nat → Nat → Int32) (p0 : Int32) (p1 : Int32) : Nat × Int32 × (Nat → Option Nat) × (Nat → Nat → Int32) :=
  match mRow N n f14 (mRowL rs E p0 p1 f10 n 0) with
  | (x_1, n_1, f14_1) =>
    if (lg_cmp (lf &&& (128 : Int64)) (0 : Int64)) = 0 then
      match useRs rs x_1 with
      | rs_6 =>
        (n_1, f14_1, rs_6, setE (setE (setE (setE (setE (setE E 0 (rowA rs x_1) p0) 1 (rowA rs x_1) f10) 2 (rowA rs x_1) (jushr p1 (mX4_bitsBelow f10))) 3 (rowA rs x_1) (mX4_frameOf lf)) 4 (rowA rs x_1) (mX4_rightsOf lf)) 5 (rowA rs x_1) (0 : Int32))
    else
      match useRs rs x_1 with
      | rs_7 =>
        (n_1, f14_1, rs_7, setE (setE (setE (setE (setE (setE E 0 (rowA rs x_1) p0) 1 (rowA rs x_1) f10) 2 (rowA rs x_1) (jushr p1 (mX4_bitsBelow f10))) 3 (rowA rs x_1) (mX4_frameOf lf)) 4 (rowA rs x_1) (mX4_rightsOf lf)) 5 (rowA rs x_1) (1 : Int32))
set_option maxHeartbeats 4000000 in
set_option maxRecDepth 100000 in
theorem c_X0_keep (l : Launch) (dC : Nat → ClassId) (dI : Nat → Nat → Nat) (a : Nat → Nat) (k : Nat → ClassId) (LP : List Nat) (N : Nat) (L : Nat) (f1 f2 f3 f4 f5 f6 f7 f8 : Int32) (rd : Nat) (f10 f11 f12 : Int32) (n : Nat) (f14 : Int32) (lf : Int64) (wd : Nat → Int64) (ho ro pa : Nat → Int32) (rs : Nat → Option Nat) (E : Nat → Nat → Int32)  (sz : Nat) (p0 : Int32) (p1 : Int32) (hn : n ≤ N) (h0N : 0 < N) (hN32 : N ≤ 32) (hrow : ∀ i, i < N → rs i = some (rowA rs i) ∧ rowA rs i ∈ LP) : Met l yX0_keep (wX0_keep :: AW) ({ frames := 3, cells := 0, slots := 0, locals := 66 }) (va_Pc [.ref (a 6), .int p0, .int p1, .ref (a 4)] (CPrQ dC dI (CWl a k LP N L f1 f2 f3 f4 f5 f6 f7 f8 rd f10 f11 f12 n f14 lf wd ho ro pa rs E) [(k 0, .long), (k 1, .int), (k 2, .int), (k 3, .object "PageRows$Entry"), (k 4, .int)] sz)) (va_Qv (fun (u : Nat × Int32 × (Nat → Option Nat) × (Nat → Nat → Int32)) => u = mX0_keep N f10 n f14 lf rs E p0 p1) (fun (u : Nat × Int32 × (Nat → Option Nat) × (Nat → Nat → Int32)) (t : State) => match u with | (n', f14', rs', E') => va_P (dC, dI) vwCl (CWl a k LP N L f1 f2 f3 f4 f5 f6 f7 f8 rd f10 f11 f12 n' f14' lf wd ho ro pa rs' E') t.heap ∧ va_K (dC, dI) vwCl [(k 0, .long), (k 1, .int), (k 2, .int), (k 3, .object "PageRows$Entry"), (k 4, .int)] t ∧ va_D (va_A (CWl a k LP N L f1 f2 f3 f4 f5 f6 f7 f8 rd f10 f11 f12 n f14 lf wd ho ro pa rs E) sz) (CWl a k LP N L f1 f2 f3 f4 f5 f6 f7 f8 rd f10 f11 f12 n' f14' lf wd ho ro pa rs' E')) (va_A (CWl a k LP N L f1 f2 f3 f4 f5 f6 f7 f8 rd f10 f11 f12 n f14 lf wd ho ro pa rs E) sz)) 0 0 (va_A (CWl a k LP N L f1 f2 f3 f4 f5 f6 f7 f8 rd f10 f11 f12 n f14 lf wd ho ro pa rs E) sz) := by
  refine cx_of (cc := cX0_keep) (maxL := 6) (ret := none) (by decide) rfl (Nat.le_of_ble_eq_true rfl) ?_
  intro p e s m below meth c ls hx hb hr hts hown hlocks hml hnm hl hB
  have hta : ∀ w ∈ AW, w.before [.ref (a 6), .int p0, .int p1, .ref (a 4)].toArray s = true := fun w h => hts w (List.mem_cons_of_mem _ h)
  have hl : lv_has ls 6 [(0, .ref (a 6)), (1, .int p0), (2, .int p1), (3, .ref (a 4))] := hl
  have hown : s.vm.findClass RX0 = some m.cls := hown
  obtain ⟨rfl, ⟨hP, hK, hN⟩, hD0⟩ := hB
  have hD := hD0.self (sz := s.heap.size)
  generalize hAe : va_A (CWl a k LP N L f1 f2 f3 f4 f5 f6 f7 f8 rd f10 f11 f12 n f14 lf wd ho ro pa rs E) s.heap.size = A at hD ⊢
  have hA : ∀ q : Nat, s.heap.size ≤ q → A q := fun q h => by rw [← hAe]; exact Or.inr h
  have hS : va_S A s.heap s.heap [] := va_S.rf
  refine lv_aload_n hx hb dX0_keep_0 rfl (lv_at hl 0 rfl) ?_
  refine lv_iload_n hx hb dX0_keep_1 rfl (lv_at hl 1 rfl) ?_
  refine lv_iload_n hx hb dX0_keep_2 rfl (lv_at hl 2 rfl) ?_
  refine lv_aload_n hx hb dX0_keep_3 rfl (lv_at hl 3 rfl) ?_
  refine va_getN (D := (dC, dI)) (ci := 3) (v := .int f10) (C := RX3) (T := TX3) (N := 8) hx hb hta inA_X3 hown hK hP 4 rfl rfl 5 (by decide) (hN.nf 6 rfl) (fun _ h9 => h9) rfl dX0_keep_4 ?_
  have hFc : ∀ q, va_A (CWl a k LP N L f1 f2 f3 f4 f5 f6 f7 f8 rd f10 f11 f12 n f14 lf wd ho ro pa rs E) s.heap.size q → A q := cx_free hD hS hA
  refine va_calli (va_runV (As := [.int p0, .int p1, .int f10]) (rest := []) ⟨hx, hb, hml, hown, hta⟩ (c_X0_rowFor l dC dI a k LP N L f1 f2 f3 f4 f5 f6 f7 f8 rd f10 f11 f12 n f14 lf wd ho ro pa rs E s.heap.size p0 p1 f10 hn h0N hN32 hrow) (cwV 3 hta (gV aw_436 aw_438 aw_13 aw_41 aw_439) rfl rfl rfl (by decide +kernel) ⟨Nat.le_of_ble_eq_true rfl, Nat.le_of_ble_eq_true rfl⟩) (cx_preVQ hK hP hN (va_recv hK hP (ci := 0) (q0 := 6) rfl rfl) hD) rfl rfl hl.1 rfl (lv_room (Nat.le_of_ble_eq_true rfl)) dX0_keep_7 ⟨Nat.le_of_ble_eq_true rfl, Nat.le_of_ble_eq_true rfl⟩) hS (fun q _ h => hFc q h) hFc (fun r_1 u t9 H1 locs ht hvm hw_1 hB hz1 hk1 hS => ?_)
  obtain ⟨n_1, f14_1⟩ := u
  obtain ⟨x_1, rfl, hw_1⟩ := hw_1
  obtain ⟨hP, hK1, hD1⟩ := hB
  rw [ht] at hP
  have hD := hD1.weaken (fun _ _ _ h => hFc _ h)
  clear hFc hz1 hk1 hK1 hD1 ht hvm
  generalize H1 = H at hP hS ⊢
  have hP : va_P (dC, dI) vwCl (CWl a k LP N L f1 f2 f3 f4 f5 f6 f7 f8 rd f10 f11 f12 n_1 f14_1 lf wd ho ro pa rs E) H := hP
  have hD : va_D A (CWl a k LP N L f1 f2 f3 f4 f5 f6 f7 f8 rd f10 f11 f12 n_1 f14_1 lf wd ho ro pa rs E) := hD
  obtain ⟨hxN_1, hnN_1, hxn_1⟩ := mRow_lt hw_1 (fun i hi => by have := mRowL_lt _ _ _ _ _ _ _ _ hi; omega) hn h0N
  refine lv_istore (lv' := [(4, .int (nI x_1)), (0, .ref (a 6)), (1, .int p0), (2, .int p1), (3, .ref (a 4))]) hx hb dX0_keep_10 hl (by decide) rfl (fun ls hl => ?_)
  refine lv_aload_n hx hb dX0_keep_12 rfl (lv_at hl 1 rfl) ?_
  refine va_get (D := (dC, dI)) (ci := 0) (v := .ref (a 7)) (C := RX0) (T := TX0) (N := 3) hx hb hta inA_X0 hown hK hP 6 rfl rfl 0 (by decide) (hta _ aw_159) (fun _ h9 => h9) rfl dX0_keep_13 ?_
  refine lv_iload hx hb dX0_keep_16 (lv_at hl 0 rfl) ?_
  refine cx_aald hx hb hK hP 7 3 rfl rfl (vp_in_nI (by omega) (by omega)) (by rw [nI_clamp (by omega)]; exact (hrow x_1 (by omega)).1) dX0_keep_18 ?_
  refine lv_astore (lv' := [(5, .ref (rowA rs x_1)), (4, .int (nI x_1)), (0, .ref (a 6)), (1, .int p0), (2, .int p1), (3, .ref (a 4))]) hx hb dX0_keep_19 hl (by decide) rfl (fun ls hl => ?_)
  refine lv_aload hx hb dX0_keep_21 (lv_at hl 0 rfl) ?_
  refine lv_iload_n hx hb dX0_keep_23 rfl (lv_at hl 3 rfl) ?_
  refine cx_putEN (D := (dC, dI)) (v := p0) (ty := .int) hx hb hta inA_X1 hown hK hP hD hS (hrow x_1 (by omega)).2 0 (by decide) (hN.nf 9 rfl) (fun _ h9 => h9) rfl (by decide +kernel) rfl rfl dX0_keep_24 (fun H locs hP hD hS => ?_)
  have hP : va_P (dC, dI) vwCl (CWl a k LP N L f1 f2 f3 f4 f5 f6 f7 f8 rd f10 f11 f12 n_1 f14_1 lf wd ho ro pa rs (setE E 0 (rowA rs x_1) p0)) H := hP
  have hD : va_D A (CWl a k LP N L f1 f2 f3 f4 f5 f6 f7 f8 rd f10 f11 f12 n_1 f14_1 lf wd ho ro pa rs (setE E 0 (rowA rs x_1) p0)) := hD
  refine lv_aload hx hb dX0_keep_27 (lv_at hl 0 rfl) ?_
  refine lv_aload_n hx hb dX0_keep_29 rfl (lv_at hl 5 rfl) ?_
  refine va_getN (D := (dC, dI)) (ci := 3) (v := .int f10) (C := RX3) (T := TX3) (N := 8) hx hb hta inA_X3 hown hK hP 4 rfl rfl 5 (by decide) (hN.nf 6 rfl) (fun _ h9 => h9) rfl dX0_keep_30 ?_
  refine cx_putEN (D := (dC, dI)) (v := f10) (ty := .int) hx hb hta inA_X1 hown hK hP hD hS (hrow x_1 (by omega)).2 1 (by decide) (hN.nf 11 rfl) (fun _ h9 => h9) rfl (by decide +kernel) rfl rfl dX0_keep_33 (fun H locs hP hD hS => ?_)
  have hP : va_P (dC, dI) vwCl (CWl a k LP N L f1 f2 f3 f4 f5 f6 f7 f8 rd f10 f11 f12 n_1 f14_1 lf wd ho ro pa rs (setE (setE E 0 (rowA rs x_1) p0) 1 (rowA rs x_1) f10)) H := hP
  have hD : va_D A (CWl a k LP N L f1 f2 f3 f4 f5 f6 f7 f8 rd f10 f11 f12 n_1 f14_1 lf wd ho ro pa rs (setE (setE E 0 (rowA rs x_1) p0) 1 (rowA rs x_1) f10)) := hD
  refine lv_aload hx hb dX0_keep_36 (lv_at hl 0 rfl) ?_
  refine lv_iload_n hx hb dX0_keep_38 rfl (lv_at hl 4 rfl) ?_
  refine lv_aload_n hx hb dX0_keep_39 rfl (lv_at hl 5 rfl) ?_
  refine va_getN (D := (dC, dI)) (ci := 3) (v := .int f10) (C := RX3) (T := TX3) (N := 8) hx hb hta inA_X3 hown hK hP 4 rfl rfl 5 (by decide) (hN.nf 6 rfl) (fun _ h9 => h9) rfl dX0_keep_40 ?_
  refine cx_callSi (va_runSN (As := [.int f10]) (rest := [.int p1, .ref (rowA rs x_1)]) ⟨hx, hb, hml, hown, hta⟩ (c_X4_bitsBelow l f10) ⟨va_cnB 1 hta (gC aw_372) rfl rfl rfl (hN.nm 17 rfl) (hta _ aw_38) (by decide +kernel) ⟨Nat.le_of_ble_eq_true rfl, Nat.le_of_ble_eq_true rfl⟩, (hta _ aw_371), trivial⟩ cx_pre0 rfl rfl hl.1 rfl (lv_room (Nat.le_of_ble_eq_true rfl)) dX0_keep_43 ⟨Nat.le_of_ble_eq_true rfl, Nat.le_of_ble_eq_true rfl⟩) (fun r hw_2 => ?_)
  subst hw_2
  refine lv_iushr (v := jushr p1 (mX4_bitsBelow f10)) hx hb dX0_keep_46 rfl ?_
  refine cx_putEN (D := (dC, dI)) (v := jushr p1 (mX4_bitsBelow f10)) (ty := .int) hx hb hta inA_X1 hown hK hP hD hS (hrow x_1 (by omega)).2 2 (by decide) (hN.nf 13 rfl) (fun _ h9 => h9) rfl (by decide +kernel) rfl rfl dX0_keep_47 (fun H locs hP hD hS => ?_)
  have hP : va_P (dC, dI) vwCl (CWl a k LP N L f1 f2 f3 f4 f5 f6 f7 f8 rd f10 f11 f12 n_1 f14_1 lf wd ho ro pa rs (setE (setE (setE E 0 (rowA rs x_1) p0) 1 (rowA rs x_1) f10) 2 (rowA rs x_1) (jushr p1 (mX4_bitsBelow f10)))) H := hP
  have hD : va_D A (CWl a k LP N L f1 f2 f3 f4 f5 f6 f7 f8 rd f10 f11 f12 n_1 f14_1 lf wd ho ro pa rs (setE (setE (setE E 0 (rowA rs x_1) p0) 1 (rowA rs x_1) f10) 2 (rowA rs x_1) (jushr p1 (mX4_bitsBelow f10)))) := hD
  refine lv_aload hx hb dX0_keep_50 (lv_at hl 0 rfl) ?_
  refine lv_aload_n hx hb dX0_keep_52 rfl (lv_at hl 5 rfl) ?_
  refine va_getN (D := (dC, dI)) (ci := 3) (v := .long lf) (C := RX3) (T := TX3) (N := 8) hx hb hta inA_X3 hown hK hP 4 rfl rfl 4 (by decide) (hN.nf 5 rfl) (fun _ h9 => h9) rfl dX0_keep_53 ?_
  refine cx_callSi (va_runSN (As := [.long lf]) (rest := [.ref (rowA rs x_1)]) ⟨hx, hb, hml, hown, hta⟩ (c_X4_frameOf l lf) ⟨va_cnB 1 hta (gC aw_409) rfl rfl rfl (hN.nm 18 rfl) (hta _ aw_38) (by decide +kernel) ⟨Nat.le_of_ble_eq_true rfl, Nat.le_of_ble_eq_true rfl⟩, (hta _ aw_408), trivial⟩ cx_pre0 rfl rfl hl.1 rfl (lv_room (Nat.le_of_ble_eq_true rfl)) dX0_keep_56 ⟨Nat.le_of_ble_eq_true rfl, Nat.le_of_ble_eq_true rfl⟩) (fun r hw_3 => ?_)
  subst hw_3
  refine cx_putEN (D := (dC, dI)) (v := mX4_frameOf lf) (ty := .int) hx hb hta inA_X1 hown hK hP hD hS (hrow x_1 (by omega)).2 3 (by decide) (hN.nf 15 rfl) (fun _ h9 => h9) rfl (by decide +kernel) rfl rfl dX0_keep_59 (fun H locs hP hD hS => ?_)
  have hP : va_P (dC, dI) vwCl (CWl a k LP N L f1 f2 f3 f4 f5 f6 f7 f8 rd f10 f11 f12 n_1 f14_1 lf wd ho ro pa rs (setE (setE (setE (setE E 0 (rowA rs x_1) p0) 1 (rowA rs x_1) f10) 2 (rowA rs x_1) (jushr p1 (mX4_bitsBelow f10))) 3 (rowA rs x_1) (mX4_frameOf lf))) H := hP
  have hD : va_D A (CWl a k LP N L f1 f2 f3 f4 f5 f6 f7 f8 rd f10 f11 f12 n_1 f14_1 lf wd ho ro pa rs (setE (setE (setE (setE E 0 (rowA rs x_1) p0) 1 (rowA rs x_1) f10) 2 (rowA rs x_1) (jushr p1 (mX4_bitsBelow f10))) 3 (rowA rs x_1) (mX4_frameOf lf))) := hD
  refine lv_aload hx hb dX0_keep_62 (lv_at hl 0 rfl) ?_
  refine lv_aload_n hx hb dX0_keep_64 rfl (lv_at hl 5 rfl) ?_
  refine va_getN (D := (dC, dI)) (ci := 3) (v := .long lf) (C := RX3) (T := TX3) (N := 8) hx hb hta inA_X3 hown hK hP 4 rfl rfl 4 (by decide) (hN.nf 5 rfl) (fun _ h9 => h9) rfl dX0_keep_65 ?_
  refine cx_callSi (va_runSN (As := [.long lf]) (rest := [.ref (rowA rs x_1)]) ⟨hx, hb, hml, hown, hta⟩ (c_X4_rightsOf l lf) ⟨va_cnB 1 hta (gC aw_418) rfl rfl rfl (hN.nm 19 rfl) (hta _ aw_38) (by decide +kernel) ⟨Nat.le_of_ble_eq_true rfl, Nat.le_of_ble_eq_true rfl⟩, (hta _ aw_417), trivial⟩ cx_pre0 rfl rfl hl.1 rfl (lv_room (Nat.le_of_ble_eq_true rfl)) dX0_keep_68 ⟨Nat.le_of_ble_eq_true rfl, Nat.le_of_ble_eq_true rfl⟩) (fun r hw_4 => ?_)
  subst hw_4
  refine cx_putEN (D := (dC, dI)) (v := mX4_rightsOf lf) (ty := .int) hx hb hta inA_X1 hown hK hP hD hS (hrow x_1 (by omega)).2 4 (by decide) (hN.nf 17 rfl) (fun _ h9 => h9) rfl (by decide +kernel) rfl rfl dX0_keep_71 (fun H locs hP hD hS => ?_)
  have hP : va_P (dC, dI) vwCl (CWl a k LP N L f1 f2 f3 f4 f5 f6 f7 f8 rd f10 f11 f12 n_1 f14_1 lf wd ho ro pa rs (setE (setE (setE (setE (setE E 0 (rowA rs x_1) p0) 1 (rowA rs x_1) f10) 2 (rowA rs x_1) (jushr p1 (mX4_bitsBelow f10))) 3 (rowA rs x_1) (mX4_frameOf lf)) 4 (rowA rs x_1) (mX4_rightsOf lf))) H := hP
  have hD : va_D A (CWl a k LP N L f1 f2 f3 f4 f5 f6 f7 f8 rd f10 f11 f12 n_1 f14_1 lf wd ho ro pa rs (setE (setE (setE (setE (setE E 0 (rowA rs x_1) p0) 1 (rowA rs x_1) f10) 2 (rowA rs x_1) (jushr p1 (mX4_bitsBelow f10))) 3 (rowA rs x_1) (mX4_frameOf lf)) 4 (rowA rs x_1) (mX4_rightsOf lf))) := hD
  refine lv_aload hx hb dX0_keep_74 (lv_at hl 0 rfl) ?_
  refine lv_aload_n hx hb dX0_keep_76 rfl (lv_at hl 5 rfl) ?_
  refine va_getN (D := (dC, dI)) (ci := 3) (v := .long lf) (C := RX3) (T := TX3) (N := 8) hx hb hta inA_X3 hown hK hP 4 rfl rfl 4 (by decide) (hN.nf 5 rfl) (fun _ h9 => h9) rfl dX0_keep_77 ?_
  refine lv_ldc2 (v := 128) hx hb hown (hta _ aw_443) dX0_keep_80 ?_
  refine lv_land hx hb dX0_keep_83 ?_
  refine lv_lconst (v := 0) hx hb dX0_keep_84 (by decide) ?_
  refine W.lcmp hx hb dX0_keep_85 ?_
  refine lv_if_eq (tgt := 93) hx hb dX0_keep_86 (by decide) (fun c_86_4 => ?_) (fun c_86_4 => ?_)
  · refine lv_iconst (v := 0) hx hb dX0_keep_93 (by decide) ?_
    refine cx_putEN (D := (dC, dI)) (v := (0 : Int32)) (ty := .boolean) hx hb hta inA_X1 hown hK hP hD hS (hrow x_1 (by omega)).2 5 (by decide) (hN.nf 19 rfl) (fun _ h9 => h9) rfl (by decide +kernel) rfl rfl dX0_keep_94 (fun H locs hP hD hS => ?_)
    have hP : va_P (dC, dI) vwCl (CWl a k LP N L f1 f2 f3 f4 f5 f6 f7 f8 rd f10 f11 f12 n_1 f14_1 lf wd ho ro pa rs (setE (setE (setE (setE (setE (setE E 0 (rowA rs x_1) p0) 1 (rowA rs x_1) f10) 2 (rowA rs x_1) (jushr p1 (mX4_bitsBelow f10))) 3 (rowA rs x_1) (mX4_frameOf lf)) 4 (rowA rs x_1) (mX4_rightsOf lf)) 5 (rowA rs x_1) (0 : Int32))) H := hP
    have hD : va_D A (CWl a k LP N L f1 f2 f3 f4 f5 f6 f7 f8 rd f10 f11 f12 n_1 f14_1 lf wd ho ro pa rs (setE (setE (setE (setE (setE (setE E 0 (rowA rs x_1) p0) 1 (rowA rs x_1) f10) 2 (rowA rs x_1) (jushr p1 (mX4_bitsBelow f10))) 3 (rowA rs x_1) (mX4_frameOf lf)) 4 (rowA rs x_1) (mX4_rightsOf lf)) 5 (rowA rs x_1) (0 : Int32))) := hD
    refine lv_aload_n hx hb dX0_keep_97 rfl (lv_at hl 2 rfl) ?_
    refine lv_iload hx hb dX0_keep_98 (lv_at hl 1 rfl) ?_
    have hFc : ∀ q, va_A (CWl a k LP N L f1 f2 f3 f4 f5 f6 f7 f8 rd f10 f11 f12 n_1 f14_1 lf wd ho ro pa rs (setE (setE (setE (setE (setE (setE E 0 (rowA rs x_1) p0) 1 (rowA rs x_1) f10) 2 (rowA rs x_1) (jushr p1 (mX4_bitsBelow f10))) 3 (rowA rs x_1) (mX4_frameOf lf)) 4 (rowA rs x_1) (mX4_rightsOf lf)) 5 (rowA rs x_1) (0 : Int32))) H.size q → A q := cx_free hD hS hA
    refine va_callv (va_runV (As := [.int (nI x_1)]) (rest := []) ⟨hx, hb, hml, hown, hta⟩ (c_X0_use l dC dI a k LP N L f1 f2 f3 f4 f5 f6 f7 f8 rd f10 f11 f12 n_1 f14_1 lf wd ho ro pa rs (setE (setE (setE (setE (setE (setE E 0 (rowA rs x_1) p0) 1 (rowA rs x_1) f10) 2 (rowA rs x_1) (jushr p1 (mX4_bitsBelow f10))) 3 (rowA rs x_1) (mX4_frameOf lf)) 4 (rowA rs x_1) (mX4_rightsOf lf)) 5 (rowA rs x_1) (0 : Int32)) H.size x_1 (by omega) hN32 hrow) (cwV 1 hta (gV aw_444 aw_446 aw_14 aw_41 aw_447) rfl rfl rfl (by decide +kernel) ⟨Nat.le_of_ble_eq_true rfl, Nat.le_of_ble_eq_true rfl⟩) (cx_preVQ hK hP hN (va_recv hK hP (ci := 0) (q0 := 6) rfl rfl) hD) rfl rfl hl.1 rfl (lv_room (Nat.le_of_ble_eq_true rfl)) dX0_keep_100 ⟨Nat.le_of_ble_eq_true rfl, Nat.le_of_ble_eq_true rfl⟩) hS (fun q _ h => hFc q h) hFc (fun u t9 H1 locs ht hvm hw_6 hB hz1 hk1 hS => ?_)
    obtain ⟨rs_6, rfl⟩ : ∃ z, z = u := ⟨_, rfl⟩
    obtain ⟨hP, hK1, hD1⟩ := hB
    rw [ht] at hP
    have hD := hD1.weaken (fun _ _ _ h => hFc _ h)
    clear hFc hz1 hk1 hK1 hD1 ht hvm
    generalize H1 = H at hP hS ⊢
    have hP : va_P (dC, dI) vwCl (CWl a k LP N L f1 f2 f3 f4 f5 f6 f7 f8 rd f10 f11 f12 n_1 f14_1 lf wd ho ro pa rs_6 (setE (setE (setE (setE (setE (setE E 0 (rowA rs x_1) p0) 1 (rowA rs x_1) f10) 2 (rowA rs x_1) (jushr p1 (mX4_bitsBelow f10))) 3 (rowA rs x_1) (mX4_frameOf lf)) 4 (rowA rs x_1) (mX4_rightsOf lf)) 5 (rowA rs x_1) (0 : Int32))) H := hP
    have hD : va_D A (CWl a k LP N L f1 f2 f3 f4 f5 f6 f7 f8 rd f10 f11 f12 n_1 f14_1 lf wd ho ro pa rs_6 (setE (setE (setE (setE (setE (setE E 0 (rowA rs x_1) p0) 1 (rowA rs x_1) f10) 2 (rowA rs x_1) (jushr p1 (mX4_bitsBelow f10))) 3 (rowA rs x_1) (mX4_frameOf lf)) 4 (rowA rs x_1) (mX4_rightsOf lf)) 5 (rowA rs x_1) (0 : Int32))) := hD
    exact W.vret hx hb hr (fun t ht hW => ⟨⟨(n_1, f14_1, rs_6, setE (setE (setE (setE (setE (setE E 0 (rowA rs x_1) p0) 1 (rowA rs x_1) f10) 2 (rowA rs x_1) (jushr p1 (mX4_bitsBelow f10))) 3 (rowA rs x_1) (mX4_frameOf lf)) 4 (rowA rs x_1) (mX4_rightsOf lf)) 5 (rowA rs x_1) (0 : Int32)), rfl, (by unfold mX0_keep; rewrite [← hw_1]; (try dsimp only); rewrite [if_pos c_86_4]; rewrite [← hw_6]; (try dsimp only); (first | done | rfl)), by rw [ht]; exact hP, va_K.moved hW.alike hK, hD⟩, hS.F ht⟩) hS.2.2 dX0_keep_103
  · refine lv_iconst (v := 1) hx hb dX0_keep_89 (by decide) ?_
    refine lv_goto (tgt := 94) hx hb dX0_keep_90 (by decide) ?_
    refine cx_putEN (D := (dC, dI)) (v := (1 : Int32)) (ty := .boolean) hx hb hta inA_X1 hown hK hP hD hS (hrow x_1 (by omega)).2 5 (by decide) (hN.nf 19 rfl) (fun _ h9 => h9) rfl (by decide +kernel) rfl rfl dX0_keep_94 (fun H locs hP hD hS => ?_)
    have hP : va_P (dC, dI) vwCl (CWl a k LP N L f1 f2 f3 f4 f5 f6 f7 f8 rd f10 f11 f12 n_1 f14_1 lf wd ho ro pa rs (setE (setE (setE (setE (setE (setE E 0 (rowA rs x_1) p0) 1 (rowA rs x_1) f10) 2 (rowA rs x_1) (jushr p1 (mX4_bitsBelow f10))) 3 (rowA rs x_1) (mX4_frameOf lf)) 4 (rowA rs x_1) (mX4_rightsOf lf)) 5 (rowA rs x_1) (1 : Int32))) H := hP
    have hD : va_D A (CWl a k LP N L f1 f2 f3 f4 f5 f6 f7 f8 rd f10 f11 f12 n_1 f14_1 lf wd ho ro pa rs (setE (setE (setE (setE (setE (setE E 0 (rowA rs x_1) p0) 1 (rowA rs x_1) f10) 2 (rowA rs x_1) (jushr p1 (mX4_bitsBelow f10))) 3 (rowA rs x_1) (mX4_frameOf lf)) 4 (rowA rs x_1) (mX4_rightsOf lf)) 5 (rowA rs x_1) (1 : Int32))) := hD
    refine lv_aload_n hx hb dX0_keep_97 rfl (lv_at hl 2 rfl) ?_
    refine lv_iload hx hb dX0_keep_98 (lv_at hl 1 rfl) ?_
    have hFc : ∀ q, va_A (CWl a k LP N L f1 f2 f3 f4 f5 f6 f7 f8 rd f10 f11 f12 n_1 f14_1 lf wd ho ro pa rs (setE (setE (setE (setE (setE (setE E 0 (rowA rs x_1) p0) 1 (rowA rs x_1) f10) 2 (rowA rs x_1) (jushr p1 (mX4_bitsBelow f10))) 3 (rowA rs x_1) (mX4_frameOf lf)) 4 (rowA rs x_1) (mX4_rightsOf lf)) 5 (rowA rs x_1) (1 : Int32))) H.size q → A q := cx_free hD hS hA
    refine va_callv (va_runV (As := [.int (nI x_1)]) (rest := []) ⟨hx, hb, hml, hown, hta⟩ (c_X0_use l dC dI a k LP N L f1 f2 f3 f4 f5 f6 f7 f8 rd f10 f11 f12 n_1 f14_1 lf wd ho ro pa rs (setE (setE (setE (setE (setE (setE E 0 (rowA rs x_1) p0) 1 (rowA rs x_1) f10) 2 (rowA rs x_1) (jushr p1 (mX4_bitsBelow f10))) 3 (rowA rs x_1) (mX4_frameOf lf)) 4 (rowA rs x_1) (mX4_rightsOf lf)) 5 (rowA rs x_1) (1 : Int32)) H.size x_1 (by omega) hN32 hrow) (cwV 1 hta (gV aw_444 aw_446 aw_14 aw_41 aw_447) rfl rfl rfl (by decide +kernel) ⟨Nat.le_of_ble_eq_true rfl, Nat.le_of_ble_eq_true rfl⟩) (cx_preVQ hK hP hN (va_recv hK hP (ci := 0) (q0 := 6) rfl rfl) hD) rfl rfl hl.1 rfl (lv_room (Nat.le_of_ble_eq_true rfl)) dX0_keep_100 ⟨Nat.le_of_ble_eq_true rfl, Nat.le_of_ble_eq_true rfl⟩) hS (fun q _ h => hFc q h) hFc (fun u t9 H1 locs ht hvm hw_7 hB hz1 hk1 hS => ?_)
    obtain ⟨rs_7, rfl⟩ : ∃ z, z = u := ⟨_, rfl⟩
    obtain ⟨hP, hK1, hD1⟩ := hB
    rw [ht] at hP
    have hD := hD1.weaken (fun _ _ _ h => hFc _ h)
    clear hFc hz1 hk1 hK1 hD1 ht hvm
    generalize H1 = H at hP hS ⊢
    have hP : va_P (dC, dI) vwCl (CWl a k LP N L f1 f2 f3 f4 f5 f6 f7 f8 rd f10 f11 f12 n_1 f14_1 lf wd ho ro pa rs_7 (setE (setE (setE (setE (setE (setE E 0 (rowA rs x_1) p0) 1 (rowA rs x_1) f10) 2 (rowA rs x_1) (jushr p1 (mX4_bitsBelow f10))) 3 (rowA rs x_1) (mX4_frameOf lf)) 4 (rowA rs x_1) (mX4_rightsOf lf)) 5 (rowA rs x_1) (1 : Int32))) H := hP
    have hD : va_D A (CWl a k LP N L f1 f2 f3 f4 f5 f6 f7 f8 rd f10 f11 f12 n_1 f14_1 lf wd ho ro pa rs_7 (setE (setE (setE (setE (setE (setE E 0 (rowA rs x_1) p0) 1 (rowA rs x_1) f10) 2 (rowA rs x_1) (jushr p1 (mX4_bitsBelow f10))) 3 (rowA rs x_1) (mX4_frameOf lf)) 4 (rowA rs x_1) (mX4_rightsOf lf)) 5 (rowA rs x_1) (1 : Int32))) := hD
    exact W.vret hx hb hr (fun t ht hW => ⟨⟨(n_1, f14_1, rs_7, setE (setE (setE (setE (setE (setE E 0 (rowA rs x_1) p0) 1 (rowA rs x_1) f10) 2 (rowA rs x_1) (jushr p1 (mX4_bitsBelow f10))) 3 (rowA rs x_1) (mX4_frameOf lf)) 4 (rowA rs x_1) (mX4_rightsOf lf)) 5 (rowA rs x_1) (1 : Int32)), rfl, (by unfold mX0_keep; rewrite [← hw_1]; (try dsimp only); rewrite [if_neg c_86_4]; rewrite [← hw_7]; (try dsimp only); (first | done | rfl)), by rw [ht]; exact hP, va_K.moved hW.alike hK, hD⟩, hS.F ht⟩) hS.2.2 dX0_keep_103
