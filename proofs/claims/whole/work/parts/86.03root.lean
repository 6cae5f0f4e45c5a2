set_option maxHeartbeats 4000000 in
set_option maxRecDepth 100000 in
theorem law_root {p : Program} {l : Launch} {e : Env} {s : State} {m : MethodId} {below : List Frame} {meth : Method} {c : Code} {dC : Nat → ClassId} {dI : Nat → Nat → Nat} {b Ls : Nat} {xs : Nat → Int32} {o : Nat} {ko : ClassId} {a : Nat → Nat} {k : Nat → ClassId} {LP : List Nat} {N L : Nat} {ga : Nat → Nat} {gk : Nat → ClassId} (C : LC p l e s m below meth c dC dI b Ls xs o ko a k LP N L ga gk) {i : Nat} (hi4 : i + 4 ≤ Ls) (nx : LoopAt p l e s m below meth c dC dI b Ls xs o ko a k LP N L ga gk (i + 4)) {th : Int32} {f1 : Int32} {f2 : Int32} {f3 : Int32} {f4 : Int32} {f5 : Int32} {f6 : Int32} {f7 : Int32} {f8 : Int32} {rd : Nat} {f10 : Int32} {f11 : Int32} {f12 : Int32} {n : Nat} {f14 : Int32} {lf : Int64} {wd : Nat → Int64} {ho : Nat → Int32} {ro : Nat → Int32} {pa : Nat → Int32} {rs : Nat → Option Nat} {E : Nat → Nat → Int32} {ov : Nat → Int64} {us : Nat} {eC : Nat → Int32} {eL : Nat → Int32} {eB : Nat → Int32} {eF : Nat → Int32} {eR : Nat → Int32} {eU : Nat → Int32} {eX : Nat → Int32} {ff : Int32} {fa : Int32} {mn : Nat} {lg : Int32} {cm : Int32} {wa : Nat → Int32} {H : Heap} {locs : List Loc} {ls : Array Slot} (hus : us ≤ i) (hrel : LREL L N LP f1 f8 ho ro n rs E us eC eL eB eF eR eU eX) (hP : va_P (dC, dI) vwCl (((MWl ga gk th L N wd f1 ro ho f8 n us eC eL eB eF eR eU eX f2 f3 f4 f5 f6 f7 f14 ff fa mn lg cm wa) ++ (OWx o ko ov a k N L f1 f2 f3 f4 f5 f6 f7 f8 rd f10 f11 f12 n f14 lf wd ho ro pa rs)) ++ (va_pl LP (CEf E))) H) (hD : va_D (fun q : Nat => s.heap.size ≤ q) (((MWl ga gk th L N wd f1 ro ho f8 n us eC eL eB eF eR eU eX f2 f3 f4 f5 f6 f7 f14 ff fa mn lg cm wa) ++ (OWx o ko ov a k N L f1 f2 f3 f4 f5 f6 f7 f8 rd f10 f11 f12 n f14 lf wd ho ro pa rs)) ++ (va_pl LP (CEf E)))) (hS : va_S (fun q : Nat => s.heap.size ≤ q) s.heap H locs) (hl : lv_has ls 8 [(0, .ref b), (1, .ref (a 0)), (2, .ref (ga 0)), (3, .ref o), (4, .int (nI i))]) : W p l e room_1 s m #[Value.ref b] below meth c H locs (100 + i) (20000 + 6 * i) (lw_Z below #[Value.ref b] s) (F0 m 338 ls []) := by
  obtain ⟨hx, hb, hr, hml, hown, hta, hX, hbl, hlocks, hN, hK, hXW, hXZ, hNc, hl9, hLs⟩ := C
  have hA : ∀ q : Nat, s.heap.size ≤ q → (fun q : Nat => s.heap.size ≤ q) q := fun _ h => h
  have hbA : ¬ (fun q : Nat => s.heap.size ≤ q) b := Nat.not_le.mpr hbl
  obtain ⟨⟨hL1, hL4, h0N, hN32⟩, hHB, hRB, hf1, hf8, hE99, hl99, hzx0⟩ := id hrel
  have hho := hHB.ok
  have hn := hrel.le
  have hrow := hrel.row
  have hro : ¬ ro f1.toNatClampNeg < 0 := by
    obtain ⟨F9, hF9, e9⟩ := hrel.root
    rw [e9]
    exact nI_pos (by omega)
  refine lv_aload_n hx hb dL_law_338 rfl (lv_at hl 1 rfl) ?_
  refine lv_aload_n hx hb dL_law_339 rfl (lv_at hl 0 rfl) ?_
  refine lv_iload hx hb dL_law_340 (lv_at hl 4 rfl) ?_
  refine lv_iconst (v := 1) hx hb dL_law_342 (by decide) ?_
  refine lv_iadd hx hb dL_law_343 ?_
  rw [show (nI i) + (1 : Int32) = nI (i + 1) from nI_add i 1]
  refine va_sld hx hb hX hbl hbA hS (vp_in_nI (show (i + 1) < Ls by omega) (by omega)) dL_law_344 ?_
  rw [nI_clamp (show (i + 1) < 2 ^ 31 by omega)]
  refine lv_aload_n hx hb dL_law_345 rfl (lv_at hl 0 rfl) ?_
  refine lv_iload hx hb dL_law_346 (lv_at hl 4 rfl) ?_
  refine lv_iconst (v := 2) hx hb dL_law_348 (by decide) ?_
  refine lv_iadd hx hb dL_law_349 ?_
  rw [show (nI i) + (2 : Int32) = nI (i + 2) from nI_add i 2]
  refine va_sld hx hb hX hbl hbA hS (vp_in_nI (show (i + 2) < Ls by omega) (by omega)) dL_law_350 ?_
  rw [nI_clamp (show (i + 2) < 2 ^ 31 by omega)]
  refine lv_aload_n hx hb dL_law_351 rfl (lv_at hl 3 rfl) ?_
  have hPc := va_P.part (cx := (OWx o ko ov a k N L f1 f2 f3 f4 f5 f6 f7 f8 rd f10 f11 f12 n f14 lf wd ho ro pa rs)) hP [12, 13, 14, 15, 16, 17, 18, 19, 20, 21] rfl
  have hDc := va_D.part (cx := (OWx o ko ov a k N L f1 f2 f3 f4 f5 f6 f7 f8 rd f10 f11 f12 n f14 lf wd ho ro pa rs)) hD [12, 13, 14, 15, 16, 17, 18, 19, 20, 21] (by decide) rfl
  have hKc := hK.sub (tys' := ((ko, .long) :: [(k 0, .long), (k 1, .int), (k 2, .int), (k 3, .object "PageRows$Entry"), (k 4, .int)])) [11, 12, 13, 14, 15, 16] rfl
  have hFc := va_freeP (cx := (OWx o ko ov a k N L f1 f2 f3 f4 f5 f6 f7 f8 rd f10 f11 f12 n f14 lf wd ho ro pa rs)) hD hS hA [12, 13, 14, 15, 16, 17, 18, 19, 20, 21] rfl
  refine va_calli (vx_runSW (As := [.ref (a 0), .int (xs (i + 1)), .int (xs (i + 2)), .ref o]) (rest := []) ⟨hx, hb, hml, hown, hta⟩ (c_L_root l hl9 dC dI o ko ov a k LP N L f1 f2 f3 f4 f5 f6 f7 f8 rd f10 f11 f12 n f14 lf wd ho ro pa rs E H.size (xs (i + 1)) (xs (i + 2))) (vx_cwSW 4 hta (gS aw_318 aw_319 aw_37 aw_320) rfl rfl rfl (by decide +kernel) ⟨Nat.le_of_ble_eq_true rfl, Nat.le_of_ble_eq_true rfl⟩) (cx_preSL hKc hPc hN hDc hXW (cx_xz hXZ hS hFc) hNc) rfl rfl hl.1 rfl (lv_room (Nat.le_of_ble_eq_true rfl)) dL_law_352 ⟨show 100 + i + 1 ≤ 601024 by omega, show 20000 + 6 * i + 6 ≤ 7292999 by omega⟩) hS (fun q _ h => hFc q h) hFc (fun kc u t9 H1 locs ht hvm hw1 hB hz1 hk1 hS => ?_)
  obtain ⟨ov', ro'⟩ := u
  obtain ⟨hP1, hK1, hD1⟩ := hB
  rw [ht] at hP1
  obtain ⟨hP, hD⟩ := va_joinP (wr := (MWl ga gk th L N wd f1 ro ho f8 n us eC eL eB eF eR eU eX f2 f3 f4 f5 f6 f7 f14 ff fa mn lg cm wa)) (rx := (OWx o ko ov' a k N L f1 f2 f3 f4 f5 f6 f7 f8 rd f10 f11 f12 n f14 lf wd ho ro' pa rs)) (pl1 := (va_pl LP (CEf E))) hP hD [12, 13, 14, 15, 16, 17, 18, 19, 20, 21] [0, 1, 2, 3, 4, 5, 6, 7, 8, 9, 10, 11] rfl rfl (by decide) (by decide) hk1 hFc hP1 hD1
  clear hFc hz1 hk1 hK1 hD1 hP1 hPc hDc hKc ht hvm
  generalize H1 = H at hP hS ⊢
  have hP : va_P (dC, dI) vwCl (((MWl ga gk th L N wd f1 ro ho f8 n us eC eL eB eF eR eU eX f2 f3 f4 f5 f6 f7 f14 ff fa mn lg cm wa) ++ (OWx o ko ov' a k N L f1 f2 f3 f4 f5 f6 f7 f8 rd f10 f11 f12 n f14 lf wd ho ro' pa rs)) ++ (va_pl LP (CEf E))) H := hP
  have hD : va_D (fun q : Nat => s.heap.size ≤ q) (((MWl ga gk th L N wd f1 ro ho f8 n us eC eL eB eF eR eU eX f2 f3 f4 f5 f6 f7 f14 ff fa mn lg cm wa) ++ (OWx o ko ov' a k N L f1 f2 f3 f4 f5 f6 f7 f8 rd f10 f11 f12 n f14 lf wd ho ro' pa rs)) ++ (va_pl LP (CEf E))) := hD
  refine lv_istore (lv' := [(5, .int kc), (0, .ref b), (1, .ref (a 0)), (2, .ref (ga 0)), (3, .ref o), (4, .int (nI i))]) hx hb dL_law_355 hl (by decide) rfl (fun ls hl => ?_)
  refine lv_aload_n hx hb dL_law_357 rfl (lv_at hl 3 rfl) ?_
  refine lv_aload_n hx hb dL_law_358 rfl (lv_at hl 1 rfl) ?_
  refine lv_iload hx hb dL_law_359 (lv_at hl 5 rfl) ?_
  refine lv_iconst (v := 1) hx hb dL_law_361 (by decide) ?_
  refine lv_iadd hx hb dL_law_362 ?_
  rw [show (nI i) + (1 : Int32) = nI (i + 1) from nI_add i 1]
  refine va_sld hx hb hX hbl hbA hS (vp_in_nI (show (i + 1) < Ls by omega) (by omega)) dL_law_363 ?_
  rw [nI_clamp (show (i + 1) < 2 ^ 31 by omega)]
  refine lv_aload_n hx hb dL_law_364 rfl (lv_at hl 1 rfl) ?_
  refine lv_iload hx hb dL_law_365 (lv_at hl 5 rfl) ?_
  refine lv_iconst (v := 2) hx hb dL_law_367 (by decide) ?_
  refine lv_iadd hx hb dL_law_368 ?_
  rw [show (nI i) + (2 : Int32) = nI (i + 2) from nI_add i 2]
  refine va_sld hx hb hX hbl hbA hS (vp_in_nI (show (i + 2) < Ls by omega) (by omega)) dL_law_369 ?_
  rw [nI_clamp (show (i + 2) < 2 ^ 31 by omega)]
  have hPc := hP.sub (ws' := (MWl ga gk th L N wd f1 ro ho f8 n us eC eL eB eF eR eU eX f2 f3 f4 f5 f6 f7 f14 ff fa mn lg cm wa)) [0, 1, 2, 3, 4, 5, 6, 7, 8, 9, 10, 11] rfl
  have hKc := hK.sub (tys' := [(gk 0, .long), (gk 1, .int), (gk 2, .int), (gk 3, .int), (gk 4, .int), (gk 5, .int), (gk 6, .int), (gk 7, .int), (gk 8, .int), (gk 9, .boolean), (gk 10, .int)]) [0, 1, 2, 3, 4, 5, 6, 7, 8, 9, 10] rfl
  have hDc := hD.sub (ws' := (MWl ga gk th L N wd f1 ro ho f8 n us eC eL eB eF eR eU eX f2 f3 f4 f5 f6 f7 f14 ff fa mn lg cm wa)) [0, 1, 2, 3, 4, 5, 6, 7, 8, 9, 10, 11] (by decide) rfl
  have hFc := va_free (wc := (MWl ga gk th L N wd f1 ro ho f8 n us eC eL eB eF eR eU eX f2 f3 f4 f5 f6 f7 f14 ff fa mn lg cm wa)) hD hS hA [0, 1, 2, 3, 4, 5, 6, 7, 8, 9, 10, 11] rfl
  refine va_calli (va_runV (As := [.int (xs (i + 1)), .int (xs (i + 2))]) (rest := []) ⟨hx, hb, hml, hown, hta⟩ (c_X5_root l dC dI ga gk th L N wd f1 ro ho f8 n us eC eL eB eF eR eU eX f2 f3 f4 f5 f6 f7 f14 ff fa mn lg cm wa H.size (xs (i + 1)) (xs (i + 2)) ) (cwV 2 hta (gV aw_626 aw_627 aw_628 aw_43 aw_629) rfl rfl rfl (by decide +kernel) ⟨Nat.le_of_ble_eq_true rfl, Nat.le_of_ble_eq_true rfl⟩) (cx_preVQ hKc hPc hN (va_recv hKc hPc (ci := 5) (q0 := 0) rfl rfl) hDc) rfl rfl hl.1 rfl (lv_room (Nat.le_of_ble_eq_true rfl)) dL_law_370 ⟨show 100 + i + 1 + 0 ≤ 601024 by omega, show 20000 + 6 * i + 6 + 0 ≤ 7292999 by omega⟩) hS (fun q _ h => hFc q h) hFc (fun bm u t9 H1 locs ht hvm hw2 hB hz1 hk1 hS => ?_)
  obtain ⟨th9, mr9⟩ := u
  obtain ⟨hP1, hK1, hD1⟩ := hB
  rw [ht] at hP1
  obtain ⟨hP, hD⟩ := va_joinQ (X := (MWl ga gk th L N wd f1 ro ho f8 n us eC eL eB eF eR eU eX f2 f3 f4 f5 f6 f7 f14 ff fa mn lg cm wa) ++ (OWx o ko ov' a k N L f1 f2 f3 f4 f5 f6 f7 f8 rd f10 f11 f12 n f14 lf wd ho ro' pa rs)) (wr := (OWx o ko ov' a k N L f1 f2 f3 f4 f5 f6 f7 f8 rd f10 f11 f12 n f14 lf wd ho ro' pa rs)) (w1 := (MWl ga gk th9 L N wd f1 mr9 ho f8 n us eC eL eB eF eR eU eX f2 f3 f4 f5 f6 f7 f14 ff fa mn lg cm wa)) (pl := (va_pl LP (CEf E))) hP hD [0, 1, 2, 3, 4, 5, 6, 7, 8, 9, 10, 11] [12, 13, 14, 15, 16, 17, 18, 19, 20, 21] rfl rfl (by decide) (by decide) hk1 hFc hP1 hD1
  have hP := va_P.part (cx := (MWl ga gk th9 L N wd f1 mr9 ho f8 n us eC eL eB eF eR eU eX f2 f3 f4 f5 f6 f7 f14 ff fa mn lg cm wa) ++ (OWx o ko ov' a k N L f1 f2 f3 f4 f5 f6 f7 f8 rd f10 f11 f12 n f14 lf wd ho ro' pa rs)) hP [10, 11, 12, 13, 14, 15, 16, 17, 18, 19, 20, 21, 0, 1, 2, 3, 4, 5, 6, 7, 8, 9] rfl
  have hD := va_D.part (cx := (MWl ga gk th9 L N wd f1 mr9 ho f8 n us eC eL eB eF eR eU eX f2 f3 f4 f5 f6 f7 f14 ff fa mn lg cm wa) ++ (OWx o ko ov' a k N L f1 f2 f3 f4 f5 f6 f7 f8 rd f10 f11 f12 n f14 lf wd ho ro' pa rs)) hD [10, 11, 12, 13, 14, 15, 16, 17, 18, 19, 20, 21, 0, 1, 2, 3, 4, 5, 6, 7, 8, 9] (by decide) rfl
  clear hFc hz1 hk1 hK1 hD1 hP1 hPc hDc hKc ht hvm
  generalize H1 = H at hP hS ⊢
  obtain ⟨g1, g2, g3, hrel⟩ := g_root hrel hw1 hw2
  rw [g3] at hP hD
  have hP : va_P (dC, dI) vwCl (((MWl ga gk th9 L N wd f1 ro' ho f8 n us eC eL eB eF eR eU eX f2 f3 f4 f5 f6 f7 f14 ff fa mn lg cm wa) ++ (OWx o ko ov' a k N L f1 f2 f3 f4 f5 f6 f7 f8 rd f10 f11 f12 n f14 lf wd ho ro' pa rs)) ++ (va_pl LP (CEf E))) H := hP
  have hD : va_D (fun q : Nat => s.heap.size ≤ q) (((MWl ga gk th9 L N wd f1 ro' ho f8 n us eC eL eB eF eR eU eX f2 f3 f4 f5 f6 f7 f14 ff fa mn lg cm wa) ++ (OWx o ko ov' a k N L f1 f2 f3 f4 f5 f6 f7 f8 rd f10 f11 f12 n f14 lf wd ho ro' pa rs)) ++ (va_pl LP (CEf E))) := hD
  refine lv_istore (lv' := [(6, .int bm), (5, .int kc), (0, .ref b), (1, .ref (a 0)), (2, .ref (ga 0)), (3, .ref o), (4, .int (nI i))]) hx hb dL_law_373 hl (by decide) rfl (fun ls hl => ?_)
  refine lv_aload_n hx hb dL_law_375 rfl (lv_at hl 4 rfl) ?_
  have hPc := hP.sub (ws' := (MWl ga gk th9 L N wd f1 ro' ho f8 n us eC eL eB eF eR eU eX f2 f3 f4 f5 f6 f7 f14 ff fa mn lg cm wa)) [0, 1, 2, 3, 4, 5, 6, 7, 8, 9, 10, 11] rfl
  have hKc := hK.sub (tys' := [(gk 0, .long), (gk 1, .int), (gk 2, .int), (gk 3, .int), (gk 4, .int), (gk 5, .int), (gk 6, .int), (gk 7, .int), (gk 8, .int), (gk 9, .boolean), (gk 10, .int)]) [0, 1, 2, 3, 4, 5, 6, 7, 8, 9, 10] rfl
  refine cx_callSi (va_runV (As := []) (rest := []) ⟨hx, hb, hml, hown, hta⟩ (c_X5_thrown l dC dI ga gk th9 L N wd f1 ro' ho f8 n us eC eL eB eF eR eU eX f2 f3 f4 f5 f6 f7 f14 ff fa mn lg cm wa) (cwV 0 hta (gV aw_603 aw_604 aw_605 aw_43 aw_606) rfl rfl rfl (by decide +kernel) ⟨Nat.le_of_ble_eq_true rfl, Nat.le_of_ble_eq_true rfl⟩) (cx_preVS hKc hPc hN (va_recv hKc hPc (ci := 5) (q0 := 0) rfl rfl)) rfl rfl hl.1 rfl (lv_room (Nat.le_of_ble_eq_true rfl)) dL_law_376 ⟨show 100 + i + 1 + 0 ≤ 601024 by omega, show 20000 + 6 * i + 6 + 0 ≤ 7292999 by omega⟩) (fun r hw9 => ?_)
  rw [show r = mX5_thrown th9 from hw9]
  clear hPc hKc
  refine lv_iload hx hb dL_law_379 (lv_at hl 1 rfl) ?_
  refine lv_icmp_eq (tgt := 386) hx hb dL_law_381 (by decide) (fun c_381_0 => ?_) (fun c_381_0 => ?_)
  · refine lv_iload hx hb dL_law_386 (lv_at hl 1 rfl) ?_
    refine lv_if_ne (tgt := 403) hx hb dL_law_388 (by decide) (fun c_388_1 => ?_) (fun c_388_1 => ?_)
    · refine lv_goto (tgt := 894) hx hb dL_law_403 (by decide) ?_
      refine lv_iinc (v := nI (i + 4)) (lv' := [(4, .int (nI (i + 4))), (6, .int bm), (5, .int kc), (0, .ref b), (1, .ref (a 0)), (2, .ref (ga 0)), (3, .ref o)]) hx hb dL_law_894 hl (k := 6) rfl (cx_inc i 4 rfl) (by decide) rfl (fun ls hl => ?_)
      refine lv_goto (tgt := 43) hx hb dL_law_897 (by decide) ?_
      refine W.widen (k := 100 + (i + 4)) (n := 20000 + 6 * (i + 4)) (by omega) (by omega) ?_
      exact nx th9 f1 f2 f3 f4 f5 f6 f7 f8 rd f10 f11 f12 n f14 lf wd ho ro' pa rs E ov' us eC eL eB eF eR eU eX ff fa mn lg cm wa _ _ _ (by omega) hrel hP hD hS (lv_sub hl [3, 4, 5, 6, 0] rfl)
    · refine lv_aload_n hx hb dL_law_391 rfl (lv_at hl 5 rfl) ?_
      refine lv_iconst (v := 0) hx hb dL_law_392 (by decide) ?_
      refine va_lald hx hb hK hP 12 11 rfl rfl (show vp_in (nI 0) 1 from vp_in_nI (by decide) (by decide)) dL_law_393 ?_
      rw [show ov' (0 : Int32).toNatClampNeg = ov' 0 from rfl]
      refine lv_iload hx hb dL_law_394 (lv_at hl 0 rfl) ?_
      refine lv_i2l (v := bm.toInt64) hx hb dL_law_396 rfl ?_
      refine W.lcmp hx hb dL_law_397 ?_
      refine lv_if_eq (tgt := 403) hx hb dL_law_398 (by decide) (fun c_398_2 => ?_) (fun c_398_2 => ?_)
      · refine lv_goto (tgt := 894) hx hb dL_law_403 (by decide) ?_
        refine lv_iinc (v := nI (i + 4)) (lv' := [(4, .int (nI (i + 4))), (6, .int bm), (5, .int kc), (0, .ref b), (1, .ref (a 0)), (2, .ref (ga 0)), (3, .ref o)]) hx hb dL_law_894 hl (k := 6) rfl (cx_inc i 4 rfl) (by decide) rfl (fun ls hl => ?_)
        refine lv_goto (tgt := 43) hx hb dL_law_897 (by decide) ?_
        refine W.widen (k := 100 + (i + 4)) (n := 20000 + 6 * (i + 4)) (by omega) (by omega) ?_
        exact nx th9 f1 f2 f3 f4 f5 f6 f7 f8 rd f10 f11 f12 n f14 lf wd ho ro' pa rs E ov' us eC eL eB eF eR eU eX ff fa mn lg cm wa _ _ _ (by omega) hrel hP hD hS (lv_sub hl [3, 4, 5, 6, 0] rfl)
      · exact absurd (lgc (g2 c_388_1)) c_398_2
  · exact absurd g1 c_381_0
