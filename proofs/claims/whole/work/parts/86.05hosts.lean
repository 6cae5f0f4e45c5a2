set_option maxHeartbeats 4000000 in
set_option maxRecDepth 100000 in
theorem law_hosts {p : Program} {l : Launch} {e : Env} {s : State} {m : MethodId} {below : List Frame} {meth : Method} {c : Code} {dC : Nat → ClassId} {dI : Nat → Nat → Nat} {b Ls : Nat} {xs : Nat → Int32} {o : Nat} {ko : ClassId} {a : Nat → Nat} {k : Nat → ClassId} {LP : List Nat} {N L : Nat} {ga : Nat → Nat} {gk : Nat → ClassId} (C : LC p l e s m below meth c dC dI b Ls xs o ko a k LP N L ga gk) {i : Nat} (hi4 : i + 4 ≤ Ls) (nx : LoopAt p l e s m below meth c dC dI b Ls xs o ko a k LP N L ga gk (i + 4)) {th : Int32} {f1 : Int32} {f2 : Int32} {f3 : Int32} {f4 : Int32} {f5 : Int32} {f6 : Int32} {f7 : Int32} {f8 : Int32} {rd : Nat} {f10 : Int32} {f11 : Int32} {f12 : Int32} {n : Nat} {f14 : Int32} {lf : Int64} {wd : Nat → Int64} {ho : Nat → Int32} {ro : Nat → Int32} {pa : Nat → Int32} {rs : Nat → Option Nat} {E : Nat → Nat → Int32} {ov : Nat → Int64} {us : Nat} {eC : Nat → Int32} {eL : Nat → Int32} {eB : Nat → Int32} {eF : Nat → Int32} {eR : Nat → Int32} {eU : Nat → Int32} {eX : Nat → Int32} {ff : Int32} {fa : Int32} {mn : Nat} {lg : Int32} {cm : Int32} {wa : Nat → Int32} {H : Heap} {locs : List Loc} {ls : Array Slot} (hus : us ≤ i) (hrel : LREL L N LP f1 f8 ho ro n rs E us eC eL eB eF eR eU eX) (hP : va_P (dC, dI) vwCl (((MWl ga gk th L N wd f1 ro ho f8 n us eC eL eB eF eR eU eX f2 f3 f4 f5 f6 f7 f14 ff fa mn lg cm wa) ++ (OWx o ko ov a k N L f1 f2 f3 f4 f5 f6 f7 f8 rd f10 f11 f12 n f14 lf wd ho ro pa rs)) ++ (va_pl LP (CEf E))) H) (hD : va_D (fun q : Nat => s.heap.size ≤ q) (((MWl ga gk th L N wd f1 ro ho f8 n us eC eL eB eF eR eU eX f2 f3 f4 f5 f6 f7 f14 ff fa mn lg cm wa) ++ (OWx o ko ov a k N L f1 f2 f3 f4 f5 f6 f7 f8 rd f10 f11 f12 n f14 lf wd ho ro pa rs)) ++ (va_pl LP (CEf E)))) (hS : va_S (fun q : Nat => s.heap.size ≤ q) s.heap H locs) (hl : lv_has ls 8 [(0, .ref b), (1, .ref (a 0)), (2, .ref (ga 0)), (3, .ref o), (4, .int (nI i))]) : W p l e room_1 s m #[Value.ref b] below meth c H locs (100 + i) (20000 + 6 * i) (lw_Z below #[Value.ref b] s) (F0 m 474 ls []) := by
  obtain ⟨hx, hb, hr, hml, hown, hta, hX, hbl, hlocks, hN, hK, hXW, hXZ, hNc, hl9, hLs⟩ := C
  have hA : ∀ q : Nat, s.heap.size ≤ q → (fun q : Nat => s.heap.size ≤ q) q := fun _ h => h
  have hbA : ¬ (fun q : Nat => s.heap.size ≤ q) b := Nat.not_le.mpr hbl
  obtain ⟨⟨hL1, hL4, h0N, hN32⟩, hHB, hRB, hf1, hf8, hE99, hl99, hzx0⟩ := id hrel
  have hho := hHB.ok
  have hn := hrel.le
  have hrow := hrel.row
  have hro : ¬ ro f1.toNatClampNeg < 0 := by
    obtain ⟨F9, hF9, e9⟩ := hrel.root
    rw [e9]
    exact nI_pos (by omega)
  refine lv_aload_n hx hb dL_law_474 rfl (lv_at hl 1 rfl) ?_
  refine lv_aload_n hx hb dL_law_475 rfl (lv_at hl 0 rfl) ?_
  refine lv_iload hx hb dL_law_476 (lv_at hl 4 rfl) ?_
  refine lv_iconst (v := 1) hx hb dL_law_478 (by decide) ?_
  refine lv_iadd hx hb dL_law_479 ?_
  rw [show (nI i) + (1 : Int32) = nI (i + 1) from nI_add i 1]
  refine va_sld hx hb hX hbl hbA hS (vp_in_nI (show (i + 1) < Ls by omega) (by omega)) dL_law_480 ?_
  rw [nI_clamp (show (i + 1) < 2 ^ 31 by omega)]
  refine lv_if_eq (tgt := 488) hx hb dL_law_481 (by decide) (fun c_481_0 => ?_) (fun c_481_0 => ?_)
  · refine lv_iconst (v := 0) hx hb dL_law_488 (by decide) ?_
    have hPc := va_P.part (cx := (CWx a k N L f1 f2 f3 f4 f5 f6 f7 f8 rd f10 f11 f12 n f14 lf wd ho ro pa rs)) hP [13, 14, 15, 16, 17, 18, 19, 20, 21] rfl
    have hKc := hK.sub (tys' := [(k 0, .long), (k 1, .int), (k 2, .int), (k 3, .object "PageRows$Entry"), (k 4, .int)]) [12, 13, 14, 15, 16] rfl
    have hDc := va_D.part (cx := (CWx a k N L f1 f2 f3 f4 f5 f6 f7 f8 rd f10 f11 f12 n f14 lf wd ho ro pa rs)) hD [13, 14, 15, 16, 17, 18, 19, 20, 21] (by decide) rfl
    have hFc := va_freeP (cx := (CWx a k N L f1 f2 f3 f4 f5 f6 f7 f8 rd f10 f11 f12 n f14 lf wd ho ro pa rs)) hD hS hA [13, 14, 15, 16, 17, 18, 19, 20, 21] rfl
    refine va_calli (va_runV (As := [.int (0 : Int32)]) (rest := []) ⟨hx, hb, hml, hown, hta⟩ (c_X4_hosts l dC dI a k LP N L f1 f2 f3 f4 f5 f6 f7 f8 rd f10 f11 f12 n f14 lf wd ho ro pa rs E H.size (0 : Int32) rfl hf8) (cwV 1 hta (gV aw_209 aw_210 aw_211 aw_38 aw_212) rfl rfl rfl (by decide +kernel) ⟨Nat.le_of_ble_eq_true rfl, Nat.le_of_ble_eq_true rfl⟩) (cx_preVQ hKc hPc hN (va_recv hKc hPc (ci := 4) (q0 := 0) rfl rfl) hDc) rfl rfl hl.1 rfl (lv_room (Nat.le_of_ble_eq_true rfl)) dL_law_489 ⟨show 100 + i + 0 ≤ 601024 by omega, show 20000 + 6 * i + 0 ≤ 7292999 by omega⟩) hS (fun q _ h => hFc q h) hFc (fun rc u t9 H1 locs ht hvm hw1 hB hz1 hk1 hS => ?_)
    obtain ⟨f8', rfl⟩ : ∃ z, z = u := ⟨_, rfl⟩
    obtain ⟨hP1, hK1, hD1⟩ := hB
    rw [ht] at hP1
    obtain ⟨hP, hD⟩ := va_joinP (wr := (MWl ga gk th L N wd f1 ro ho f8 n us eC eL eB eF eR eU eX f2 f3 f4 f5 f6 f7 f14 ff fa mn lg cm wa) ++ [(o, .inl (ko, 1, .inr (.inl ov)))]) (rx := (CWx a k N L f1 f2 f3 f4 f5 f6 f7 f8' rd f10 f11 f12 n f14 lf wd ho ro pa rs)) (pl1 := (va_pl LP (CEf E))) hP hD [13, 14, 15, 16, 17, 18, 19, 20, 21] [0, 1, 2, 3, 4, 5, 6, 7, 8, 9, 10, 11, 12] rfl rfl (by decide) (by decide) hk1 hFc hP1 hD1
    clear hFc hz1 hk1 hK1 hD1 hP1 hPc hDc hKc ht hvm
    generalize H1 = H at hP hS ⊢
    have hP : va_P (dC, dI) vwCl (((MWl ga gk th L N wd f1 ro ho f8 n us eC eL eB eF eR eU eX f2 f3 f4 f5 f6 f7 f14 ff fa mn lg cm wa) ++ (OWx o ko ov a k N L f1 f2 f3 f4 f5 f6 f7 f8' rd f10 f11 f12 n f14 lf wd ho ro pa rs)) ++ (va_pl LP (CEf E))) H := hP
    have hD : va_D (fun q : Nat => s.heap.size ≤ q) (((MWl ga gk th L N wd f1 ro ho f8 n us eC eL eB eF eR eU eX f2 f3 f4 f5 f6 f7 f14 ff fa mn lg cm wa) ++ (OWx o ko ov a k N L f1 f2 f3 f4 f5 f6 f7 f8' rd f10 f11 f12 n f14 lf wd ho ro pa rs)) ++ (va_pl LP (CEf E))) := hD
    refine lv_aload_n hx hb dL_law_492 rfl (lv_at hl 2 rfl) ?_
    refine lv_aload_n hx hb dL_law_493 rfl (lv_at hl 0 rfl) ?_
    refine lv_iload hx hb dL_law_494 (lv_at hl 4 rfl) ?_
    refine lv_iconst (v := 1) hx hb dL_law_496 (by decide) ?_
    refine lv_iadd hx hb dL_law_497 ?_
    rw [show (nI i) + (1 : Int32) = nI (i + 1) from nI_add i 1]
    refine va_sld hx hb hX hbl hbA hS (vp_in_nI (show (i + 1) < Ls by omega) (by omega)) dL_law_498 ?_
    rw [nI_clamp (show (i + 1) < 2 ^ 31 by omega)]
    refine lv_if_eq (tgt := 506) hx hb dL_law_499 (by decide) (fun c_499_1 => ?_) (fun c_499_1 => ?_)
    · refine lv_iconst (v := 0) hx hb dL_law_506 (by decide) ?_
      have hPc := hP.sub (ws' := (MWl ga gk th L N wd f1 ro ho f8 n us eC eL eB eF eR eU eX f2 f3 f4 f5 f6 f7 f14 ff fa mn lg cm wa)) [0, 1, 2, 3, 4, 5, 6, 7, 8, 9, 10, 11] rfl
      have hKc := hK.sub (tys' := [(gk 0, .long), (gk 1, .int), (gk 2, .int), (gk 3, .int), (gk 4, .int), (gk 5, .int), (gk 6, .int), (gk 7, .int), (gk 8, .int), (gk 9, .boolean), (gk 10, .int)]) [0, 1, 2, 3, 4, 5, 6, 7, 8, 9, 10] rfl
      have hDc := hD.sub (ws' := (MWl ga gk th L N wd f1 ro ho f8 n us eC eL eB eF eR eU eX f2 f3 f4 f5 f6 f7 f14 ff fa mn lg cm wa)) [0, 1, 2, 3, 4, 5, 6, 7, 8, 9, 10, 11] (by decide) rfl
      have hFc := va_free (wc := (MWl ga gk th L N wd f1 ro ho f8 n us eC eL eB eF eR eU eX f2 f3 f4 f5 f6 f7 f14 ff fa mn lg cm wa)) hD hS hA [0, 1, 2, 3, 4, 5, 6, 7, 8, 9, 10, 11] rfl
      refine va_calli (va_runV (As := [.int (0 : Int32)]) (rest := [.int rc]) ⟨hx, hb, hml, hown, hta⟩ (c_X5_hosts l dC dI ga gk th L N wd f1 ro ho f8 n us eC eL eB eF eR eU eX f2 f3 f4 f5 f6 f7 f14 ff fa mn lg cm wa H.size (0 : Int32) rfl hf8) (cwV 1 hta (gV aw_635 aw_636 aw_637 aw_43 aw_638) rfl rfl rfl (by decide +kernel) ⟨Nat.le_of_ble_eq_true rfl, Nat.le_of_ble_eq_true rfl⟩) (cx_preVQ hKc hPc hN (va_recv hKc hPc (ci := 5) (q0 := 0) rfl rfl) hDc) rfl rfl hl.1 rfl (lv_room (Nat.le_of_ble_eq_true rfl)) dL_law_507 ⟨show 100 + i + 0 ≤ 601024 by omega, show 20000 + 6 * i + 0 ≤ 7292999 by omega⟩) hS (fun q _ h => hFc q h) hFc (fun bm u t9 H1 locs ht hvm hw2 hB hz1 hk1 hS => ?_)
      obtain ⟨th9, f89⟩ := u
      obtain ⟨hP1, hK1, hD1⟩ := hB
      rw [ht] at hP1
      obtain ⟨hP, hD⟩ := va_joinQ (X := (MWl ga gk th L N wd f1 ro ho f8 n us eC eL eB eF eR eU eX f2 f3 f4 f5 f6 f7 f14 ff fa mn lg cm wa) ++ (OWx o ko ov a k N L f1 f2 f3 f4 f5 f6 f7 f8' rd f10 f11 f12 n f14 lf wd ho ro pa rs)) (wr := (OWx o ko ov a k N L f1 f2 f3 f4 f5 f6 f7 f8' rd f10 f11 f12 n f14 lf wd ho ro pa rs)) (w1 := (MWl ga gk th9 L N wd f1 ro ho f89 n us eC eL eB eF eR eU eX f2 f3 f4 f5 f6 f7 f14 ff fa mn lg cm wa)) (pl := (va_pl LP (CEf E))) hP hD [0, 1, 2, 3, 4, 5, 6, 7, 8, 9, 10, 11] [12, 13, 14, 15, 16, 17, 18, 19, 20, 21] rfl rfl (by decide) (by decide) hk1 hFc hP1 hD1
      have hP := va_P.part (cx := (MWl ga gk th9 L N wd f1 ro ho f89 n us eC eL eB eF eR eU eX f2 f3 f4 f5 f6 f7 f14 ff fa mn lg cm wa) ++ (OWx o ko ov a k N L f1 f2 f3 f4 f5 f6 f7 f8' rd f10 f11 f12 n f14 lf wd ho ro pa rs)) hP [10, 11, 12, 13, 14, 15, 16, 17, 18, 19, 20, 21, 0, 1, 2, 3, 4, 5, 6, 7, 8, 9] rfl
      have hD := va_D.part (cx := (MWl ga gk th9 L N wd f1 ro ho f89 n us eC eL eB eF eR eU eX f2 f3 f4 f5 f6 f7 f14 ff fa mn lg cm wa) ++ (OWx o ko ov a k N L f1 f2 f3 f4 f5 f6 f7 f8' rd f10 f11 f12 n f14 lf wd ho ro pa rs)) hD [10, 11, 12, 13, 14, 15, 16, 17, 18, 19, 20, 21, 0, 1, 2, 3, 4, 5, 6, 7, 8, 9] (by decide) rfl
      clear hFc hz1 hk1 hK1 hD1 hP1 hPc hDc hKc ht hvm
      generalize H1 = H at hP hS ⊢
      have g3 : f8' = (0 : Int32) := congrArg Prod.snd hw1
      have g4 : f89 = f8' := (congrArg (fun z : Int32 × Int32 × Int32 => z.2.2) hw2).trans g3.symm
      rw [g4] at hP hD
      have hP : va_P (dC, dI) vwCl (((MWl ga gk th9 L N wd f1 ro ho f8' n us eC eL eB eF eR eU eX f2 f3 f4 f5 f6 f7 f14 ff fa mn lg cm wa) ++ (OWx o ko ov a k N L f1 f2 f3 f4 f5 f6 f7 f8' rd f10 f11 f12 n f14 lf wd ho ro pa rs)) ++ (va_pl LP (CEf E))) H := hP
      have hD : va_D (fun q : Nat => s.heap.size ≤ q) (((MWl ga gk th9 L N wd f1 ro ho f8' n us eC eL eB eF eR eU eX f2 f3 f4 f5 f6 f7 f14 ff fa mn lg cm wa) ++ (OWx o ko ov a k N L f1 f2 f3 f4 f5 f6 f7 f8' rd f10 f11 f12 n f14 lf wd ho ro pa rs)) ++ (va_pl LP (CEf E))) := hD
      refine lv_icmp_eq (tgt := 894) hx hb dL_law_510 (by decide) (fun c_510_2 => ?_) (fun c_510_2 => ?_)
      · refine lv_iinc (v := nI (i + 4)) (lv' := [(4, .int (nI (i + 4))), (0, .ref b), (1, .ref (a 0)), (2, .ref (ga 0)), (3, .ref o)]) hx hb dL_law_894 hl (k := 4) rfl (cx_inc i 4 rfl) (by decide) rfl (fun ls hl => ?_)
        refine lv_goto (tgt := 43) hx hb dL_law_897 (by decide) ?_
        refine W.widen (k := 100 + (i + 4)) (n := 20000 + 6 * (i + 4)) (by omega) (by omega) ?_
        exact nx th9 f1 f2 f3 f4 f5 f6 f7 f8' rd f10 f11 f12 n f14 lf wd ho ro pa rs E ov us eC eL eB eF eR eU eX ff fa mn lg cm wa _ _ _ (by omega) (g_hosts hrel (show ZB f8' by rw [g3]; rfl)) hP hD hS (lv_sub hl [1, 2, 3, 4, 0] rfl)
      · exact absurd ((congrArg Prod.fst hw1).trans (congrArg Prod.fst hw2).symm) c_510_2
    · exact absurd c_481_0 c_499_1
  · refine lv_iconst (v := 1) hx hb dL_law_484 (by decide) ?_
    refine lv_goto (tgt := 489) hx hb dL_law_485 (by decide) ?_
    have hPc := va_P.part (cx := (CWx a k N L f1 f2 f3 f4 f5 f6 f7 f8 rd f10 f11 f12 n f14 lf wd ho ro pa rs)) hP [13, 14, 15, 16, 17, 18, 19, 20, 21] rfl
    have hKc := hK.sub (tys' := [(k 0, .long), (k 1, .int), (k 2, .int), (k 3, .object "PageRows$Entry"), (k 4, .int)]) [12, 13, 14, 15, 16] rfl
    have hDc := va_D.part (cx := (CWx a k N L f1 f2 f3 f4 f5 f6 f7 f8 rd f10 f11 f12 n f14 lf wd ho ro pa rs)) hD [13, 14, 15, 16, 17, 18, 19, 20, 21] (by decide) rfl
    have hFc := va_freeP (cx := (CWx a k N L f1 f2 f3 f4 f5 f6 f7 f8 rd f10 f11 f12 n f14 lf wd ho ro pa rs)) hD hS hA [13, 14, 15, 16, 17, 18, 19, 20, 21] rfl
    refine va_calli (va_runV (As := [.int (1 : Int32)]) (rest := []) ⟨hx, hb, hml, hown, hta⟩ (c_X4_hosts l dC dI a k LP N L f1 f2 f3 f4 f5 f6 f7 f8 rd f10 f11 f12 n f14 lf wd ho ro pa rs E H.size (1 : Int32) rfl hf8) (cwV 1 hta (gV aw_209 aw_210 aw_211 aw_38 aw_212) rfl rfl rfl (by decide +kernel) ⟨Nat.le_of_ble_eq_true rfl, Nat.le_of_ble_eq_true rfl⟩) (cx_preVQ hKc hPc hN (va_recv hKc hPc (ci := 4) (q0 := 0) rfl rfl) hDc) rfl rfl hl.1 rfl (lv_room (Nat.le_of_ble_eq_true rfl)) dL_law_489 ⟨show 100 + i + 0 ≤ 601024 by omega, show 20000 + 6 * i + 0 ≤ 7292999 by omega⟩) hS (fun q _ h => hFc q h) hFc (fun rc u t9 H1 locs ht hvm hw1 hB hz1 hk1 hS => ?_)
    obtain ⟨f8', rfl⟩ : ∃ z, z = u := ⟨_, rfl⟩
    obtain ⟨hP1, hK1, hD1⟩ := hB
    rw [ht] at hP1
    obtain ⟨hP, hD⟩ := va_joinP (wr := (MWl ga gk th L N wd f1 ro ho f8 n us eC eL eB eF eR eU eX f2 f3 f4 f5 f6 f7 f14 ff fa mn lg cm wa) ++ [(o, .inl (ko, 1, .inr (.inl ov)))]) (rx := (CWx a k N L f1 f2 f3 f4 f5 f6 f7 f8' rd f10 f11 f12 n f14 lf wd ho ro pa rs)) (pl1 := (va_pl LP (CEf E))) hP hD [13, 14, 15, 16, 17, 18, 19, 20, 21] [0, 1, 2, 3, 4, 5, 6, 7, 8, 9, 10, 11, 12] rfl rfl (by decide) (by decide) hk1 hFc hP1 hD1
    clear hFc hz1 hk1 hK1 hD1 hP1 hPc hDc hKc ht hvm
    generalize H1 = H at hP hS ⊢
    have hP : va_P (dC, dI) vwCl (((MWl ga gk th L N wd f1 ro ho f8 n us eC eL eB eF eR eU eX f2 f3 f4 f5 f6 f7 f14 ff fa mn lg cm wa) ++ (OWx o ko ov a k N L f1 f2 f3 f4 f5 f6 f7 f8' rd f10 f11 f12 n f14 lf wd ho ro pa rs)) ++ (va_pl LP (CEf E))) H := hP
    have hD : va_D (fun q : Nat => s.heap.size ≤ q) (((MWl ga gk th L N wd f1 ro ho f8 n us eC eL eB eF eR eU eX f2 f3 f4 f5 f6 f7 f14 ff fa mn lg cm wa) ++ (OWx o ko ov a k N L f1 f2 f3 f4 f5 f6 f7 f8' rd f10 f11 f12 n f14 lf wd ho ro pa rs)) ++ (va_pl LP (CEf E))) := hD
    refine lv_aload_n hx hb dL_law_492 rfl (lv_at hl 2 rfl) ?_
    refine lv_aload_n hx hb dL_law_493 rfl (lv_at hl 0 rfl) ?_
    refine lv_iload hx hb dL_law_494 (lv_at hl 4 rfl) ?_
    refine lv_iconst (v := 1) hx hb dL_law_496 (by decide) ?_
    refine lv_iadd hx hb dL_law_497 ?_
    rw [show (nI i) + (1 : Int32) = nI (i + 1) from nI_add i 1]
    refine va_sld hx hb hX hbl hbA hS (vp_in_nI (show (i + 1) < Ls by omega) (by omega)) dL_law_498 ?_
    rw [nI_clamp (show (i + 1) < 2 ^ 31 by omega)]
    refine lv_if_eq (tgt := 506) hx hb dL_law_499 (by decide) (fun c_499_3 => ?_) (fun c_499_3 => ?_)
    · exact absurd c_499_3 c_481_0
    · refine lv_iconst (v := 1) hx hb dL_law_502 (by decide) ?_
      refine lv_goto (tgt := 507) hx hb dL_law_503 (by decide) ?_
      have hPc := hP.sub (ws' := (MWl ga gk th L N wd f1 ro ho f8 n us eC eL eB eF eR eU eX f2 f3 f4 f5 f6 f7 f14 ff fa mn lg cm wa)) [0, 1, 2, 3, 4, 5, 6, 7, 8, 9, 10, 11] rfl
      have hKc := hK.sub (tys' := [(gk 0, .long), (gk 1, .int), (gk 2, .int), (gk 3, .int), (gk 4, .int), (gk 5, .int), (gk 6, .int), (gk 7, .int), (gk 8, .int), (gk 9, .boolean), (gk 10, .int)]) [0, 1, 2, 3, 4, 5, 6, 7, 8, 9, 10] rfl
      have hDc := hD.sub (ws' := (MWl ga gk th L N wd f1 ro ho f8 n us eC eL eB eF eR eU eX f2 f3 f4 f5 f6 f7 f14 ff fa mn lg cm wa)) [0, 1, 2, 3, 4, 5, 6, 7, 8, 9, 10, 11] (by decide) rfl
      have hFc := va_free (wc := (MWl ga gk th L N wd f1 ro ho f8 n us eC eL eB eF eR eU eX f2 f3 f4 f5 f6 f7 f14 ff fa mn lg cm wa)) hD hS hA [0, 1, 2, 3, 4, 5, 6, 7, 8, 9, 10, 11] rfl
      refine va_calli (va_runV (As := [.int (1 : Int32)]) (rest := [.int rc]) ⟨hx, hb, hml, hown, hta⟩ (c_X5_hosts l dC dI ga gk th L N wd f1 ro ho f8 n us eC eL eB eF eR eU eX f2 f3 f4 f5 f6 f7 f14 ff fa mn lg cm wa H.size (1 : Int32) rfl hf8) (cwV 1 hta (gV aw_635 aw_636 aw_637 aw_43 aw_638) rfl rfl rfl (by decide +kernel) ⟨Nat.le_of_ble_eq_true rfl, Nat.le_of_ble_eq_true rfl⟩) (cx_preVQ hKc hPc hN (va_recv hKc hPc (ci := 5) (q0 := 0) rfl rfl) hDc) rfl rfl hl.1 rfl (lv_room (Nat.le_of_ble_eq_true rfl)) dL_law_507 ⟨show 100 + i + 0 ≤ 601024 by omega, show 20000 + 6 * i + 0 ≤ 7292999 by omega⟩) hS (fun q _ h => hFc q h) hFc (fun bm u t9 H1 locs ht hvm hw2 hB hz1 hk1 hS => ?_)
      obtain ⟨th9, f89⟩ := u
      obtain ⟨hP1, hK1, hD1⟩ := hB
      rw [ht] at hP1
      obtain ⟨hP, hD⟩ := va_joinQ (X := (MWl ga gk th L N wd f1 ro ho f8 n us eC eL eB eF eR eU eX f2 f3 f4 f5 f6 f7 f14 ff fa mn lg cm wa) ++ (OWx o ko ov a k N L f1 f2 f3 f4 f5 f6 f7 f8' rd f10 f11 f12 n f14 lf wd ho ro pa rs)) (wr := (OWx o ko ov a k N L f1 f2 f3 f4 f5 f6 f7 f8' rd f10 f11 f12 n f14 lf wd ho ro pa rs)) (w1 := (MWl ga gk th9 L N wd f1 ro ho f89 n us eC eL eB eF eR eU eX f2 f3 f4 f5 f6 f7 f14 ff fa mn lg cm wa)) (pl := (va_pl LP (CEf E))) hP hD [0, 1, 2, 3, 4, 5, 6, 7, 8, 9, 10, 11] [12, 13, 14, 15, 16, 17, 18, 19, 20, 21] rfl rfl (by decide) (by decide) hk1 hFc hP1 hD1
      have hP := va_P.part (cx := (MWl ga gk th9 L N wd f1 ro ho f89 n us eC eL eB eF eR eU eX f2 f3 f4 f5 f6 f7 f14 ff fa mn lg cm wa) ++ (OWx o ko ov a k N L f1 f2 f3 f4 f5 f6 f7 f8' rd f10 f11 f12 n f14 lf wd ho ro pa rs)) hP [10, 11, 12, 13, 14, 15, 16, 17, 18, 19, 20, 21, 0, 1, 2, 3, 4, 5, 6, 7, 8, 9] rfl
      have hD := va_D.part (cx := (MWl ga gk th9 L N wd f1 ro ho f89 n us eC eL eB eF eR eU eX f2 f3 f4 f5 f6 f7 f14 ff fa mn lg cm wa) ++ (OWx o ko ov a k N L f1 f2 f3 f4 f5 f6 f7 f8' rd f10 f11 f12 n f14 lf wd ho ro pa rs)) hD [10, 11, 12, 13, 14, 15, 16, 17, 18, 19, 20, 21, 0, 1, 2, 3, 4, 5, 6, 7, 8, 9] (by decide) rfl
      clear hFc hz1 hk1 hK1 hD1 hP1 hPc hDc hKc ht hvm
      generalize H1 = H at hP hS ⊢
      have g3 : f8' = (1 : Int32) := congrArg Prod.snd hw1
      have g4 : f89 = f8' := (congrArg (fun z : Int32 × Int32 × Int32 => z.2.2) hw2).trans g3.symm
      rw [g4] at hP hD
      have hP : va_P (dC, dI) vwCl (((MWl ga gk th9 L N wd f1 ro ho f8' n us eC eL eB eF eR eU eX f2 f3 f4 f5 f6 f7 f14 ff fa mn lg cm wa) ++ (OWx o ko ov a k N L f1 f2 f3 f4 f5 f6 f7 f8' rd f10 f11 f12 n f14 lf wd ho ro pa rs)) ++ (va_pl LP (CEf E))) H := hP
      have hD : va_D (fun q : Nat => s.heap.size ≤ q) (((MWl ga gk th9 L N wd f1 ro ho f8' n us eC eL eB eF eR eU eX f2 f3 f4 f5 f6 f7 f14 ff fa mn lg cm wa) ++ (OWx o ko ov a k N L f1 f2 f3 f4 f5 f6 f7 f8' rd f10 f11 f12 n f14 lf wd ho ro pa rs)) ++ (va_pl LP (CEf E))) := hD
      refine lv_icmp_eq (tgt := 894) hx hb dL_law_510 (by decide) (fun c_510_4 => ?_) (fun c_510_4 => ?_)
      · refine lv_iinc (v := nI (i + 4)) (lv' := [(4, .int (nI (i + 4))), (0, .ref b), (1, .ref (a 0)), (2, .ref (ga 0)), (3, .ref o)]) hx hb dL_law_894 hl (k := 4) rfl (cx_inc i 4 rfl) (by decide) rfl (fun ls hl => ?_)
        refine lv_goto (tgt := 43) hx hb dL_law_897 (by decide) ?_
        refine W.widen (k := 100 + (i + 4)) (n := 20000 + 6 * (i + 4)) (by omega) (by omega) ?_
        exact nx th9 f1 f2 f3 f4 f5 f6 f7 f8' rd f10 f11 f12 n f14 lf wd ho ro pa rs E ov us eC eL eB eF eR eU eX ff fa mn lg cm wa _ _ _ (by omega) (g_hosts hrel (show ZB f8' by rw [g3]; rfl)) hP hD hS (lv_sub hl [1, 2, 3, 4, 0] rfl)
      · exact absurd ((congrArg Prod.fst hw1).trans (congrArg Prod.fst hw2).symm) c_510_4
