theorem cx_wordin2 {h i : Int32} (h0 : 0 ≤ h) (h1 : h < (256 : Int32)) : vp_in (((16 : Int32) * h) + (i &&& (15 : Int32))) 4096 := by
  have h2 : ¬ h < 0 := fun q => absurd (Int32.lt_of_lt_of_le q h0) Int32.lt_irrefl
  obtain ⟨j, hj, rfl⟩ := vp_in_of (cx_inl (n := 256) h2 h1 rfl) (by decide)
  obtain ⟨r, hr, er⟩ := pk_andE i (m := (15 : Int32)) 4 (by decide)
  rw [er, show (16 : Int32) = nI 16 from rfl, pk_mul, nI_add]
  exact vp_in_nI (by omega) (by decide)
theorem cx_pow_ne {b : Nat} (hb : b ≤ 3) : ¬ ((1 : Int32) <<< (((4 : Int32) * (nI b)) &&& 31)) = 0 := by
  rcases (show b = 0 ∨ b = 1 ∨ b = 2 ∨ b = 3 by omega) with rfl | rfl | rfl | rfl <;> decide
/-- PageRowsModel.goes -/
def mX5_goes (L : Nat) (mm : Nat → Int64) (mh : Nat → Int32) (f8 : Int32) (ff : Int32) (fa : Int32) (mn : Nat) (wa : Nat → Int32) (p0 : Int32) (p1 : Nat) (p2 : Int32) (p3 : Int32) : Int32 × Int32 × Int32 × Nat × Int32 × (Nat → Int32) :=
  if 0 ≤ (mX5_mapped mh f8 p0) then
    if (mX5_mapped mh f8 p0) < (256 : Int32) then
      if (lg_cmp ((mm (((16 : Int32) * (mX5_mapped mh f8 p0)) + ((p2 >>> (((8 : Int32) + ((4 : Int32) * (nI (L - 1 - p1)))) &&& 31)) &&& (15 : Int32))).toNatClampNeg) &&& (1 : Int64)) (0 : Int64)) = 0 then
        match mX5_fails (2 : Int32) (nI p1) with
        | (r_30, ff_30, fa_30) =>
          (r_30, ff_30, fa_30, (mn + 1), (-1 : Int32), upd wa mn (((16 : Int32) * (mX5_mapped mh f8 p0)) + ((p2 >>> (((8 : Int32) + ((4 : Int32) * (nI (L - 1 - p1)))) &&& 31)) &&& (15 : Int32))))
      else
        if (lg_cmp ((mm (((16 : Int32) * (mX5_mapped mh f8 p0)) + ((p2 >>> (((8 : Int32) + ((4 : Int32) * (nI (L - 1 - p1)))) &&& 31)) &&& (15 : Int32))).toNatClampNeg) &&& (32 : Int64)) (0 : Int64)) = 0 then
          if (nI (L - 1 - p1)) ≤ 0 then
            if (mX5_does (mX5_rightsOf (mm (((16 : Int32) * (mX5_mapped mh f8 p0)) + ((p2 >>> (((8 : Int32) + ((4 : Int32) * (nI (L - 1 - p1)))) &&& 31)) &&& (15 : Int32))).toNatClampNeg)) p3) = 0 then
              match mX5_fails (3 : Int32) (nI p1) with
              | (r_11, ff_11, fa_11) =>
                (r_11, ff_11, fa_11, (mn + 1), (-1 : Int32), upd wa mn (((16 : Int32) * (mX5_mapped mh f8 p0)) + ((p2 >>> (((8 : Int32) + ((4 : Int32) * (nI (L - 1 - p1)))) &&& 31)) &&& (15 : Int32))))
            else
              ((1 : Int32), ff, fa, (mn + 1), nI (L - 1 - p1), upd wa mn (((16 : Int32) * (mX5_mapped mh f8 p0)) + ((p2 >>> (((8 : Int32) + ((4 : Int32) * (nI (L - 1 - p1)))) &&& 31)) &&& (15 : Int32))))
          else
            ((1 : Int32), ff, fa, (mn + 1), (-1 : Int32), upd wa mn (((16 : Int32) * (mX5_mapped mh f8 p0)) + ((p2 >>> (((8 : Int32) + ((4 : Int32) * (nI (L - 1 - p1)))) &&& 31)) &&& (15 : Int32))))
        else
          if (nI (L - 1 - p1)) ≤ 0 then
            if (mX5_does (mX5_rightsOf (mm (((16 : Int32) * (mX5_mapped mh f8 p0)) + ((p2 >>> (((8 : Int32) + ((4 : Int32) * (nI (L - 1 - p1)))) &&& 31)) &&& (15 : Int32))).toNatClampNeg)) p3) = 0 then
              match mX5_fails (3 : Int32) (nI p1) with
              | (r_19, ff_19, fa_19) =>
                (r_19, ff_19, fa_19, (mn + 1), (-1 : Int32), upd wa mn (((16 : Int32) * (mX5_mapped mh f8 p0)) + ((p2 >>> (((8 : Int32) + ((4 : Int32) * (nI (L - 1 - p1)))) &&& 31)) &&& (15 : Int32))))
            else
              ((1 : Int32), ff, fa, (mn + 1), nI (L - 1 - p1), upd wa mn (((16 : Int32) * (mX5_mapped mh f8 p0)) + ((p2 >>> (((8 : Int32) + ((4 : Int32) * (nI (L - 1 - p1)))) &&& 31)) &&& (15 : Int32))))
          else
            if ((mX5_frameOf (mm (((16 : Int32) * (mX5_mapped mh f8 p0)) + ((p2 >>> (((8 : Int32) + ((4 : Int32) * (nI (L - 1 - p1)))) &&& 31)) &&& (15 : Int32))).toNatClampNeg)) - (mX5_frameOf (mm (((16 : Int32) * (mX5_mapped mh f8 p0)) + ((p2 >>> (((8 : Int32) + ((4 : Int32) * (nI (L - 1 - p1)))) &&& 31)) &&& (15 : Int32))).toNatClampNeg)) / ((1 : Int32) <<< (((4 : Int32) * (nI (L - 1 - p1))) &&& 31)) * ((1 : Int32) <<< (((4 : Int32) * (nI (L - 1 - p1))) &&& 31))) = 0 then
              if (mX5_does (mX5_rightsOf (mm (((16 : Int32) * (mX5_mapped mh f8 p0)) + ((p2 >>> (((8 : Int32) + ((4 : Int32) * (nI (L - 1 - p1)))) &&& 31)) &&& (15 : Int32))).toNatClampNeg)) p3) = 0 then
                match mX5_fails (3 : Int32) (nI p1) with
                | (r_28, ff_28, fa_28) =>
                  (r_28, ff_28, fa_28, (mn + 1), (-1 : Int32), upd wa mn (((16 : Int32) * (mX5_mapped mh f8 p0)) + ((p2 >>> (((8 : Int32) + ((4 : Int32) * (nI (L - 1 - p1)))) &&& 31)) &&& (15 : Int32))))
              else
                ((1 : Int32), ff, fa, (mn + 1), nI (L - 1 - p1), upd wa mn (((16 : Int32) * (mX5_mapped mh f8 p0)) + ((p2 >>> (((8 : Int32) + ((4 : Int32) * (nI (L - 1 - p1)))) &&& 31)) &&& (15 : Int32))))
            else
              match mX5_fails (4 : Int32) (nI p1) with
              | (r_29, ff_29, fa_29) =>
                (r_29, ff_29, fa_29, (mn + 1), (-1 : Int32), upd wa mn (((16 : Int32) * (mX5_mapped mh f8 p0)) + ((p2 >>> (((8 : Int32) + ((4 : Int32) * (nI (L - 1 - p1)))) &&& 31)) &&& (15 : Int32))))
    else
      match mX5_fails (5 : Int32) (nI p1) with
      | (r_31, ff_31, fa_31) =>
        (r_31, ff_31, fa_31, mn, (-1 : Int32), wa)
  else
    match mX5_fails (6 : Int32) (nI p1) with
    | (r_32, ff_32, fa_32) =>
      (r_32, ff_32, fa_32, mn, (-1 : Int32), wa)
set_option maxHeartbeats 4000000 in
set_option maxRecDepth 100000 in
theorem c_X5_goes (l : Launch) (dC : Nat → ClassId) (dI : Nat → Nat → Nat) (ga : Nat → Nat) (gk : Nat → ClassId) (th : Int32) (L : Nat) (N : Nat) (mm : Nat → Int64) (f1 : Int32) (mr : Nat → Int32) (mh : Nat → Int32) (f8 : Int32) (en : Nat) (us : Nat) (eC : Nat → Int32) (eL : Nat → Int32) (eB : Nat → Int32) (eF : Nat → Int32) (eR : Nat → Int32) (eU : Nat → Int32) (eX : Nat → Int32) (f2 : Int32) (f3 : Int32) (f4 : Int32) (f5 : Int32) (f6 : Int32) (f7 : Int32) (f14 : Int32) (ff : Int32) (fa : Int32) (mn : Nat) (lg : Int32) (cm : Int32) (wa : Nat → Int32)  (sz : Nat) (p0 : Int32) (p1 : Nat) (p2 : Int32) (p3 : Int32) (hL1 : 1 ≤ L) (hL4 : L ≤ 4) (hp1 : p1 < L) (hmn : mn < 4) : Met l yX5_goes (wX5_goes :: AW) ({ frames := 2, cells := 0, slots := 0, locals := 42 }) (va_Pc [.ref (ga 0), .int p0, .int (nI p1), .int p2, .int p3] (CPrQ dC dI (MWl ga gk th L N mm f1 mr mh f8 en us eC eL eB eF eR eU eX f2 f3 f4 f5 f6 f7 f14 ff fa mn lg cm wa) [(gk 0, .long), (gk 1, .int), (gk 2, .int), (gk 3, .int), (gk 4, .int), (gk 5, .int), (gk 6, .int), (gk 7, .int), (gk 8, .int), (gk 9, .boolean), (gk 10, .int)] sz)) (va_Qi (fun (r : Int32) (u : Int32 × Int32 × Nat × Int32 × (Nat → Int32)) => (r, u) = mX5_goes L mm mh f8 ff fa mn wa p0 p1 p2 p3) (fun (u : Int32 × Int32 × Nat × Int32 × (Nat → Int32)) (t : State) => match u with | (ff', fa', mn', lg', wa') => va_P (dC, dI) vwCl (MWl ga gk th L N mm f1 mr mh f8 en us eC eL eB eF eR eU eX f2 f3 f4 f5 f6 f7 f14 ff' fa' mn' lg' cm wa') t.heap ∧ va_K (dC, dI) vwCl [(gk 0, .long), (gk 1, .int), (gk 2, .int), (gk 3, .int), (gk 4, .int), (gk 5, .int), (gk 6, .int), (gk 7, .int), (gk 8, .int), (gk 9, .boolean), (gk 10, .int)] t ∧ va_D (va_A (MWl ga gk th L N mm f1 mr mh f8 en us eC eL eB eF eR eU eX f2 f3 f4 f5 f6 f7 f14 ff fa mn lg cm wa) sz) (MWl ga gk th L N mm f1 mr mh f8 en us eC eL eB eF eR eU eX f2 f3 f4 f5 f6 f7 f14 ff' fa' mn' lg' cm wa')) (va_A (MWl ga gk th L N mm f1 mr mh f8 en us eC eL eB eF eR eU eX f2 f3 f4 f5 f6 f7 f14 ff fa mn lg cm wa) sz)) 0 0 (va_A (MWl ga gk th L N mm f1 mr mh f8 en us eC eL eB eF eR eU eX f2 f3 f4 f5 f6 f7 f14 ff fa mn lg cm wa) sz) := by
  refine cx_of (cc := cX5_goes) (maxL := 11) (ret := some .boolean) (by decide) rfl (Nat.le_of_ble_eq_true rfl) ?_
  intro p e s m below meth c ls hx hb hr hts hown hlocks hml hnm hl hB
  have hta : ∀ w ∈ AW, w.before [.ref (ga 0), .int p0, .int (nI p1), .int p2, .int p3].toArray s = true := fun w h => hts w (List.mem_cons_of_mem _ h)
  have hl : lv_has ls 11 [(0, .ref (ga 0)), (1, .int p0), (2, .int (nI p1)), (3, .int p2), (4, .int p3)] := hl
  have hown : s.vm.findClass RX5 = some m.cls := hown
  obtain ⟨rfl, ⟨hP, hK, hN⟩, hD0⟩ := hB
  have hD := hD0.self (sz := s.heap.size)
  generalize hAe : va_A (MWl ga gk th L N mm f1 mr mh f8 en us eC eL eB eF eR eU eX f2 f3 f4 f5 f6 f7 f14 ff fa mn lg cm wa) s.heap.size = A at hD ⊢
  have hA : ∀ q : Nat, s.heap.size ≤ q → A q := fun q h => by rw [← hAe]; exact Or.inr h
  have hS : va_S A s.heap s.heap [] := va_S.rf
  refine lv_aload_n hx hb dX5_goes_0 rfl (lv_at hl 0 rfl) ?_
  refine lv_iconst (v := (-1)) hx hb dX5_goes_1 (by decide) ?_
  refine va_put (D := (dC, dI)) (ci := 5) (v := .int (-1 : Int32)) (ty := .int) (C := RX5) (T := TX5) (N := 30) hx hb hta inA_X5 tyX5 tyX5_ok nmX5 hown hK hP hD hS 0 rfl rfl 27 (by decide) (hta _ aw_538) (fun _ h9 => h9) rfl (by decide +kernel) rfl rfl (Nat.le_of_ble_eq_true rfl) dX5_goes_2 (fun H locs hP hD hS => ?_)
  have hP : va_P (dC, dI) vwCl (MWl ga gk th L N mm f1 mr mh f8 en us eC eL eB eF eR eU eX f2 f3 f4 f5 f6 f7 f14 ff fa mn (-1 : Int32) cm wa) H := hP
  have hD : va_D A (MWl ga gk th L N mm f1 mr mh f8 en us eC eL eB eF eR eU eX f2 f3 f4 f5 f6 f7 f14 ff fa mn (-1 : Int32) cm wa) := hD
  refine lv_aload_n hx hb dX5_goes_5 rfl (lv_at hl 0 rfl) ?_
  refine lv_iload_n hx hb dX5_goes_6 rfl (lv_at hl 1 rfl) ?_
  refine cx_callSi (va_runV (As := [.int p0]) (rest := []) ⟨hx, hb, hml, hown, hta⟩ (c_X5_mapped l dC dI ga gk th L N mm f1 mr mh f8 en us eC eL eB eF eR eU eX f2 f3 f4 f5 f6 f7 f14 ff fa mn (-1 : Int32) cm wa p0) (cwV 1 hta (gV aw_677 aw_679 aw_28 aw_43 aw_680) rfl rfl rfl (by decide +kernel) ⟨Nat.le_of_ble_eq_true rfl, Nat.le_of_ble_eq_true rfl⟩) (cx_preVS hK hP hN (va_recv hK hP (ci := 5) (q0 := 0) rfl rfl)) rfl rfl hl.1 rfl (lv_room (Nat.le_of_ble_eq_true rfl)) dX5_goes_7 ⟨Nat.le_of_ble_eq_true rfl, Nat.le_of_ble_eq_true rfl⟩) (fun r hw_1 => ?_)
  subst hw_1
  refine lv_istore (lv' := [(5, .int (mX5_mapped mh f8 p0)), (0, .ref (ga 0)), (1, .int p0), (2, .int (nI p1)), (3, .int p2), (4, .int p3)]) hx hb dX5_goes_10 hl (by decide) rfl (fun ls hl => ?_)
  refine lv_iload hx hb dX5_goes_12 (lv_at hl 0 rfl) ?_
  refine lv_if_ge (tgt := 25) hx hb dX5_goes_14 (by decide) (fun c_14_1 => ?_) (fun c_14_1 => ?_)
  · refine lv_iload hx hb dX5_goes_25 (lv_at hl 0 rfl) ?_
    refine lv_sipush (v := 256) hx hb dX5_goes_27 (by decide) ?_
    refine lv_icmp_lt (tgt := 40) hx hb dX5_goes_30 (by decide) (fun c_30_2 => ?_) (fun c_30_2 => ?_)
    · refine lv_aload_n hx hb dX5_goes_40 rfl (lv_at hl 1 rfl) ?_
      refine va_get (D := (dC, dI)) (ci := 5) (v := .int (nI L)) (C := RX5) (T := TX5) (N := 30) hx hb hta inA_X5 hown hK hP 0 rfl rfl 1 (by decide) (hta _ aw_512) (fun _ h9 => h9) rfl dX5_goes_41 ?_
      refine lv_iconst (v := 1) hx hb dX5_goes_44 (by decide) ?_
      refine lv_isub hx hb dX5_goes_45 ?_
      rw [show (nI L) - (1 : Int32) = nI (L - 1) from pk_sub hL1]
      refine lv_iload_n hx hb dX5_goes_46 rfl (lv_at hl 3 rfl) ?_
      refine lv_isub hx hb dX5_goes_47 ?_
      rw [show (nI (L - 1)) - (nI p1) = nI (L - 1 - p1) from pk_sub (show p1 ≤ L - 1 by omega)]
      refine lv_istore (lv' := [(6, .int (nI (L - 1 - p1))), (5, .int (mX5_mapped mh f8 p0)), (0, .ref (ga 0)), (1, .int p0), (2, .int (nI p1)), (3, .int p2), (4, .int p3)]) hx hb dX5_goes_48 hl (by decide) rfl (fun ls hl => ?_)
      refine lv_bipush (v := 16) hx hb dX5_goes_50 (by decide) ?_
      refine lv_iload hx hb dX5_goes_52 (lv_at hl 1 rfl) ?_
      refine lv_imul hx hb dX5_goes_54 ?_
      refine lv_iload_n hx hb dX5_goes_55 rfl (lv_at hl 5 rfl) ?_
      refine lv_bipush (v := 8) hx hb dX5_goes_56 (by decide) ?_
      refine lv_iconst (v := 4) hx hb dX5_goes_58 (by decide) ?_
      refine lv_iload hx hb dX5_goes_59 (lv_at hl 0 rfl) ?_
      refine lv_imul hx hb dX5_goes_61 ?_
      refine lv_iadd hx hb dX5_goes_62 ?_
      refine lv_ishr hx hb dX5_goes_63 ?_
      refine lv_bipush (v := 15) hx hb dX5_goes_64 (by decide) ?_
      refine lv_iand hx hb dX5_goes_66 ?_
      refine lv_iadd hx hb dX5_goes_67 ?_
      refine lv_istore (lv' := [(7, .int (((16 : Int32) * (mX5_mapped mh f8 p0)) + ((p2 >>> (((8 : Int32) + ((4 : Int32) * (nI (L - 1 - p1)))) &&& 31)) &&& (15 : Int32)))), (6, .int (nI (L - 1 - p1))), (5, .int (mX5_mapped mh f8 p0)), (0, .ref (ga 0)), (1, .int p0), (2, .int (nI p1)), (3, .int p2), (4, .int p3)]) hx hb dX5_goes_68 hl (by decide) rfl (fun ls hl => ?_)
      refine lv_aload_n hx hb dX5_goes_70 rfl (lv_at hl 3 rfl) ?_
      refine va_get (D := (dC, dI)) (ci := 5) (v := .ref (ga 11)) (C := RX5) (T := TX5) (N := 30) hx hb hta inA_X5 hown hK hP 0 rfl rfl 29 (by decide) (hta _ aw_540) (fun _ h9 => h9) rfl dX5_goes_71 ?_
      refine lv_aload_n hx hb dX5_goes_74 rfl (lv_at hl 3 rfl) ?_
      refine va_get (D := (dC, dI)) (ci := 5) (v := .int (nI mn)) (C := RX5) (T := TX5) (N := 30) hx hb hta inA_X5 hown hK hP 0 rfl rfl 26 (by decide) (hta _ aw_537) (fun _ h9 => h9) rfl dX5_goes_75 ?_
      refine lv_iload hx hb dX5_goes_78 (lv_at hl 0 rfl) ?_
      refine va_iast hx hb hK hP hD hS 11 10 rfl rfl (vp_in_nI hmn (by decide)) dX5_goes_80 (fun H locs hP hD hS => ?_)
      rw [nI_clamp (show mn < 2 ^ 31 by omega)] at hP hD
      have hP : va_P (dC, dI) vwCl (MWl ga gk th L N mm f1 mr mh f8 en us eC eL eB eF eR eU eX f2 f3 f4 f5 f6 f7 f14 ff fa mn (-1 : Int32) cm (upd wa mn (((16 : Int32) * (mX5_mapped mh f8 p0)) + ((p2 >>> (((8 : Int32) + ((4 : Int32) * (nI (L - 1 - p1)))) &&& 31)) &&& (15 : Int32))))) H := hP
      have hD : va_D A (MWl ga gk th L N mm f1 mr mh f8 en us eC eL eB eF eR eU eX f2 f3 f4 f5 f6 f7 f14 ff fa mn (-1 : Int32) cm (upd wa mn (((16 : Int32) * (mX5_mapped mh f8 p0)) + ((p2 >>> (((8 : Int32) + ((4 : Int32) * (nI (L - 1 - p1)))) &&& 31)) &&& (15 : Int32))))) := hD
      refine lv_aload_n hx hb dX5_goes_81 rfl (lv_at hl 3 rfl) ?_
      refine lv_dup hx hb dX5_goes_82 rfl ?_
      refine va_get (D := (dC, dI)) (ci := 5) (v := .int (nI mn)) (C := RX5) (T := TX5) (N := 30) hx hb hta inA_X5 hown hK hP 0 rfl rfl 26 (by decide) (hta _ aw_537) (fun _ h9 => h9) rfl dX5_goes_83 ?_
      refine lv_iconst (v := 1) hx hb dX5_goes_86 (by decide) ?_
      refine lv_iadd hx hb dX5_goes_87 ?_
      rw [show (nI mn) + (1 : Int32) = nI (mn + 1) from nI_add mn 1]
      refine va_put (D := (dC, dI)) (ci := 5) (v := .int (nI (mn + 1))) (ty := .int) (C := RX5) (T := TX5) (N := 30) hx hb hta inA_X5 tyX5 tyX5_ok nmX5 hown hK hP hD hS 0 rfl rfl 26 (by decide) (hta _ aw_537) (fun _ h9 => h9) rfl (by decide +kernel) rfl rfl (Nat.le_of_ble_eq_true rfl) dX5_goes_88 (fun H locs hP hD hS => ?_)
      have hP : va_P (dC, dI) vwCl (MWl ga gk th L N mm f1 mr mh f8 en us eC eL eB eF eR eU eX f2 f3 f4 f5 f6 f7 f14 ff fa (mn + 1) (-1 : Int32) cm (upd wa mn (((16 : Int32) * (mX5_mapped mh f8 p0)) + ((p2 >>> (((8 : Int32) + ((4 : Int32) * (nI (L - 1 - p1)))) &&& 31)) &&& (15 : Int32))))) H := hP
      have hD : va_D A (MWl ga gk th L N mm f1 mr mh f8 en us eC eL eB eF eR eU eX f2 f3 f4 f5 f6 f7 f14 ff fa (mn + 1) (-1 : Int32) cm (upd wa mn (((16 : Int32) * (mX5_mapped mh f8 p0)) + ((p2 >>> (((8 : Int32) + ((4 : Int32) * (nI (L - 1 - p1)))) &&& 31)) &&& (15 : Int32))))) := hD
      refine lv_aload_n hx hb dX5_goes_91 rfl (lv_at hl 3 rfl) ?_
      refine va_get (D := (dC, dI)) (ci := 5) (v := .ref (ga 1)) (C := RX5) (T := TX5) (N := 30) hx hb hta inA_X5 hown hK hP 0 rfl rfl 3 (by decide) (hta _ aw_514) (fun _ h9 => h9) rfl dX5_goes_92 ?_
      refine lv_iload hx hb dX5_goes_95 (lv_at hl 0 rfl) ?_
      refine va_lald hx hb hK hP 1 0 rfl rfl (cx_wordin2 c_14_1 c_30_2) dX5_goes_97 ?_
      refine lv_lstore (lv' := [(8, .long (mm (((16 : Int32) * (mX5_mapped mh f8 p0)) + ((p2 >>> (((8 : Int32) + ((4 : Int32) * (nI (L - 1 - p1)))) &&& 31)) &&& (15 : Int32))).toNatClampNeg)), (7, .int (((16 : Int32) * (mX5_mapped mh f8 p0)) + ((p2 >>> (((8 : Int32) + ((4 : Int32) * (nI (L - 1 - p1)))) &&& 31)) &&& (15 : Int32)))), (6, .int (nI (L - 1 - p1))), (5, .int (mX5_mapped mh f8 p0)), (0, .ref (ga 0)), (1, .int p0), (2, .int (nI p1)), (3, .int p2), (4, .int p3)]) hx hb dX5_goes_98 hl (by decide) rfl (fun ls hl => ?_)
      refine lv_lload hx hb dX5_goes_100 (lv_at hl 0 rfl) ?_
      refine lv_lconst (v := 1) hx hb dX5_goes_102 (by decide) ?_
      refine lv_land hx hb dX5_goes_103 ?_
      refine lv_lconst (v := 0) hx hb dX5_goes_104 (by decide) ?_
      refine W.lcmp hx hb dX5_goes_105 ?_
      refine lv_if_ne (tgt := 116) hx hb dX5_goes_106 (by decide) (fun c_106_3 => ?_) (fun c_106_3 => ?_)
      · refine lv_lload hx hb dX5_goes_116 (lv_at hl 0 rfl) ?_
        refine lv_ldc2 (v := 32) hx hb hown (hta _ aw_693) dX5_goes_118 ?_
        refine lv_land hx hb dX5_goes_121 ?_
        refine lv_lconst (v := 0) hx hb dX5_goes_122 (by decide) ?_
        refine W.lcmp hx hb dX5_goes_123 ?_
        refine lv_if_eq (tgt := 136) hx hb dX5_goes_124 (by decide) (fun c_124_4 => ?_) (fun c_124_4 => ?_)
        · refine lv_iconst (v := 0) hx hb dX5_goes_136 (by decide) ?_
          refine lv_istore (lv' := [(10, .int (0 : Int32)), (8, .long (mm (((16 : Int32) * (mX5_mapped mh f8 p0)) + ((p2 >>> (((8 : Int32) + ((4 : Int32) * (nI (L - 1 - p1)))) &&& 31)) &&& (15 : Int32))).toNatClampNeg)), (7, .int (((16 : Int32) * (mX5_mapped mh f8 p0)) + ((p2 >>> (((8 : Int32) + ((4 : Int32) * (nI (L - 1 - p1)))) &&& 31)) &&& (15 : Int32)))), (6, .int (nI (L - 1 - p1))), (5, .int (mX5_mapped mh f8 p0)), (0, .ref (ga 0)), (1, .int p0), (2, .int (nI p1)), (3, .int p2), (4, .int p3)]) hx hb dX5_goes_137 hl (by decide) rfl (fun ls hl => ?_)
          refine lv_iload hx hb dX5_goes_139 (lv_at hl 3 rfl) ?_
          refine lv_if_le (tgt := 151) hx hb dX5_goes_141 (by decide) (fun c_141_5 => ?_) (fun c_141_5 => ?_)
          · refine lv_iload hx hb dX5_goes_151 (lv_at hl 0 rfl) ?_
            refine lv_if_eq (tgt := 178) hx hb dX5_goes_153 (by decide) (fun c_153_6 => ?_) (fun c_153_6 => ?_)
            · refine lv_lload hx hb dX5_goes_178 (lv_at hl 1 rfl) ?_
              refine cx_callSi (va_runS (As := [.long (mm (((16 : Int32) * (mX5_mapped mh f8 p0)) + ((p2 >>> (((8 : Int32) + ((4 : Int32) * (nI (L - 1 - p1)))) &&& 31)) &&& (15 : Int32))).toNatClampNeg)]) (rest := []) ⟨hx, hb, hml, hown, hta⟩ (c_X5_rightsOf l (mm (((16 : Int32) * (mX5_mapped mh f8 p0)) + ((p2 >>> (((8 : Int32) + ((4 : Int32) * (nI (L - 1 - p1)))) &&& 31)) &&& (15 : Int32))).toNatClampNeg)) (va_cwS 1 hta (gS aw_698 aw_699 aw_43 aw_700) rfl rfl rfl (by decide +kernel) ⟨Nat.le_of_ble_eq_true rfl, Nat.le_of_ble_eq_true rfl⟩) cx_pre0 rfl rfl hl.1 rfl (lv_room (Nat.le_of_ble_eq_true rfl)) dX5_goes_180 ⟨Nat.le_of_ble_eq_true rfl, Nat.le_of_ble_eq_true rfl⟩) (fun r hw_8 => ?_)
              subst hw_8
              refine lv_iload hx hb dX5_goes_183 (lv_at hl 9 rfl) ?_
              refine cx_callSi (va_runS (As := [.int (mX5_rightsOf (mm (((16 : Int32) * (mX5_mapped mh f8 p0)) + ((p2 >>> (((8 : Int32) + ((4 : Int32) * (nI (L - 1 - p1)))) &&& 31)) &&& (15 : Int32))).toNatClampNeg)), .int p3]) (rest := []) ⟨hx, hb, hml, hown, hta⟩ (c_X5_does l (mX5_rightsOf (mm (((16 : Int32) * (mX5_mapped mh f8 p0)) + ((p2 >>> (((8 : Int32) + ((4 : Int32) * (nI (L - 1 - p1)))) &&& 31)) &&& (15 : Int32))).toNatClampNeg)) p3) (va_cwS 2 hta (gS aw_655 aw_656 aw_43 aw_657) rfl rfl rfl (by decide +kernel) ⟨Nat.le_of_ble_eq_true rfl, Nat.le_of_ble_eq_true rfl⟩) cx_pre0 rfl rfl hl.1 rfl (lv_room (Nat.le_of_ble_eq_true rfl)) dX5_goes_185 ⟨Nat.le_of_ble_eq_true rfl, Nat.le_of_ble_eq_true rfl⟩) (fun r hw_9 => ?_)
              subst hw_9
              refine lv_if_ne (tgt := 198) hx hb dX5_goes_188 (by decide) (fun c_188_9 => ?_) (fun c_188_9 => ?_)
              · refine lv_aload_n hx hb dX5_goes_198 rfl (lv_at hl 5 rfl) ?_
                refine lv_iload hx hb dX5_goes_199 (lv_at hl 3 rfl) ?_
                refine va_put (D := (dC, dI)) (ci := 5) (v := .int (nI (L - 1 - p1))) (ty := .int) (C := RX5) (T := TX5) (N := 30) hx hb hta inA_X5 tyX5 tyX5_ok nmX5 hown hK hP hD hS 0 rfl rfl 27 (by decide) (hta _ aw_538) (fun _ h9 => h9) rfl (by decide +kernel) rfl rfl (Nat.le_of_ble_eq_true rfl) dX5_goes_201 (fun H locs hP hD hS => ?_)
                have hP : va_P (dC, dI) vwCl (MWl ga gk th L N mm f1 mr mh f8 en us eC eL eB eF eR eU eX f2 f3 f4 f5 f6 f7 f14 ff fa (mn + 1) (nI (L - 1 - p1)) cm (upd wa mn (((16 : Int32) * (mX5_mapped mh f8 p0)) + ((p2 >>> (((8 : Int32) + ((4 : Int32) * (nI (L - 1 - p1)))) &&& 31)) &&& (15 : Int32))))) H := hP
                have hD : va_D A (MWl ga gk th L N mm f1 mr mh f8 en us eC eL eB eF eR eU eX f2 f3 f4 f5 f6 f7 f14 ff fa (mn + 1) (nI (L - 1 - p1)) cm (upd wa mn (((16 : Int32) * (mX5_mapped mh f8 p0)) + ((p2 >>> (((8 : Int32) + ((4 : Int32) * (nI (L - 1 - p1)))) &&& 31)) &&& (15 : Int32))))) := hD
                refine lv_iconst (v := 1) hx hb dX5_goes_204 (by decide) ?_
                exact W.zret (ty := .boolean) (v := (1 : Int32)) hx hb hr rfl (fun t ht hW => ⟨⟨(1 : Int32), (ff, fa, (mn + 1), nI (L - 1 - p1), upd wa mn (((16 : Int32) * (mX5_mapped mh f8 p0)) + ((p2 >>> (((8 : Int32) + ((4 : Int32) * (nI (L - 1 - p1)))) &&& 31)) &&& (15 : Int32)))), rfl, (by unfold mX5_goes; rewrite [if_pos c_14_1]; rewrite [if_pos c_30_2]; rewrite [if_neg c_106_3]; rewrite [if_pos c_124_4]; rewrite [if_pos c_141_5]; rewrite [if_neg c_188_9]; (first | done | rfl)), by rw [ht]; exact hP, va_K.moved hW.alike hK, hD⟩, hS.F ht⟩) hS.2.2 dX5_goes_205
              · refine lv_aload_n hx hb dX5_goes_191 rfl (lv_at hl 5 rfl) ?_
                refine lv_iconst (v := 3) hx hb dX5_goes_192 (by decide) ?_
                refine lv_iload_n hx hb dX5_goes_193 rfl (lv_at hl 7 rfl) ?_
                have hFc : ∀ q, va_A (MWl ga gk th L N mm f1 mr mh f8 en us eC eL eB eF eR eU eX f2 f3 f4 f5 f6 f7 f14 ff fa (mn + 1) (-1 : Int32) cm (upd wa mn (((16 : Int32) * (mX5_mapped mh f8 p0)) + ((p2 >>> (((8 : Int32) + ((4 : Int32) * (nI (L - 1 - p1)))) &&& 31)) &&& (15 : Int32))))) H.size q → A q := cx_free hD hS hA
                refine va_calli (va_runV (As := [.int (3 : Int32), .int (nI p1)]) (rest := []) ⟨hx, hb, hml, hown, hta⟩ (c_X5_fails l dC dI ga gk th L N mm f1 mr mh f8 en us eC eL eB eF eR eU eX f2 f3 f4 f5 f6 f7 f14 ff fa (mn + 1) (-1 : Int32) cm (upd wa mn (((16 : Int32) * (mX5_mapped mh f8 p0)) + ((p2 >>> (((8 : Int32) + ((4 : Int32) * (nI (L - 1 - p1)))) &&& 31)) &&& (15 : Int32)))) H.size (3 : Int32) (nI p1)) (cwV 2 hta (gV aw_666 aw_668 aw_26 aw_43 aw_669) rfl rfl rfl (by decide +kernel) ⟨Nat.le_of_ble_eq_true rfl, Nat.le_of_ble_eq_true rfl⟩) (cx_preVQ hK hP hN (va_recv hK hP (ci := 5) (q0 := 0) rfl rfl) hD) rfl rfl hl.1 rfl (lv_room (Nat.le_of_ble_eq_true rfl)) dX5_goes_194 ⟨Nat.le_of_ble_eq_true rfl, Nat.le_of_ble_eq_true rfl⟩) hS (fun q _ h => hFc q h) hFc (fun r_11 u t9 H1 locs ht hvm hw_11 hB hz1 hk1 hS => ?_)
                obtain ⟨ff_11, fa_11⟩ := u
                obtain ⟨hP, hK1, hD1⟩ := hB
                rw [ht] at hP
                have hD := hD1.weaken (fun _ _ _ h => hFc _ h)
                clear hFc hz1 hk1 hK1 hD1 ht hvm
                generalize H1 = H at hP hS ⊢
                have hP : va_P (dC, dI) vwCl (MWl ga gk th L N mm f1 mr mh f8 en us eC eL eB eF eR eU eX f2 f3 f4 f5 f6 f7 f14 ff_11 fa_11 (mn + 1) (-1 : Int32) cm (upd wa mn (((16 : Int32) * (mX5_mapped mh f8 p0)) + ((p2 >>> (((8 : Int32) + ((4 : Int32) * (nI (L - 1 - p1)))) &&& 31)) &&& (15 : Int32))))) H := hP
                have hD : va_D A (MWl ga gk th L N mm f1 mr mh f8 en us eC eL eB eF eR eU eX f2 f3 f4 f5 f6 f7 f14 ff_11 fa_11 (mn + 1) (-1 : Int32) cm (upd wa mn (((16 : Int32) * (mX5_mapped mh f8 p0)) + ((p2 >>> (((8 : Int32) + ((4 : Int32) * (nI (L - 1 - p1)))) &&& 31)) &&& (15 : Int32))))) := hD
                have hzf : narrow .boolean (.int r_11) = .int r_11 := by have := hw_11; unfold mX5_fails at this; cases this; rfl
                exact W.zret (ty := .boolean) (v := r_11) hx hb hr hzf (fun t ht hW => ⟨⟨r_11, (ff_11, fa_11, (mn + 1), (-1 : Int32), upd wa mn (((16 : Int32) * (mX5_mapped mh f8 p0)) + ((p2 >>> (((8 : Int32) + ((4 : Int32) * (nI (L - 1 - p1)))) &&& 31)) &&& (15 : Int32)))), rfl, (by unfold mX5_goes; rewrite [if_pos c_14_1]; rewrite [if_pos c_30_2]; rewrite [if_neg c_106_3]; rewrite [if_pos c_124_4]; rewrite [if_pos c_141_5]; rewrite [if_pos c_188_9]; rewrite [← hw_11]; (try dsimp only); (first | done | rfl)), by rw [ht]; exact hP, va_K.moved hW.alike hK, hD⟩, hS.F ht⟩) hS.2.2 dX5_goes_197
            · exact absurd (by decide) c_153_6
          · refine lv_iload hx hb dX5_goes_144 (lv_at hl 0 rfl) ?_
            refine lv_if_ne (tgt := 151) hx hb dX5_goes_146 (by decide) (fun c_146_11 => ?_) (fun c_146_11 => ?_)
            · exact absurd (by decide) c_146_11
            · refine lv_iconst (v := 1) hx hb dX5_goes_149 (by decide) ?_
              exact W.zret (ty := .boolean) (v := (1 : Int32)) hx hb hr rfl (fun t ht hW => ⟨⟨(1 : Int32), (ff, fa, (mn + 1), (-1 : Int32), upd wa mn (((16 : Int32) * (mX5_mapped mh f8 p0)) + ((p2 >>> (((8 : Int32) + ((4 : Int32) * (nI (L - 1 - p1)))) &&& 31)) &&& (15 : Int32)))), rfl, (by unfold mX5_goes; rewrite [if_pos c_14_1]; rewrite [if_pos c_30_2]; rewrite [if_neg c_106_3]; rewrite [if_pos c_124_4]; rewrite [if_neg c_141_5]; (first | done | rfl)), by rw [ht]; exact hP, va_K.moved hW.alike hK, hD⟩, hS.F ht⟩) hS.2.2 dX5_goes_150
        · refine lv_iload hx hb dX5_goes_127 (lv_at hl 2 rfl) ?_
          refine lv_if_le (tgt := 136) hx hb dX5_goes_129 (by decide) (fun c_129_12 => ?_) (fun c_129_12 => ?_)
          · refine lv_iconst (v := 0) hx hb dX5_goes_136 (by decide) ?_
            refine lv_istore (lv' := [(10, .int (0 : Int32)), (8, .long (mm (((16 : Int32) * (mX5_mapped mh f8 p0)) + ((p2 >>> (((8 : Int32) + ((4 : Int32) * (nI (L - 1 - p1)))) &&& 31)) &&& (15 : Int32))).toNatClampNeg)), (7, .int (((16 : Int32) * (mX5_mapped mh f8 p0)) + ((p2 >>> (((8 : Int32) + ((4 : Int32) * (nI (L - 1 - p1)))) &&& 31)) &&& (15 : Int32)))), (6, .int (nI (L - 1 - p1))), (5, .int (mX5_mapped mh f8 p0)), (0, .ref (ga 0)), (1, .int p0), (2, .int (nI p1)), (3, .int p2), (4, .int p3)]) hx hb dX5_goes_137 hl (by decide) rfl (fun ls hl => ?_)
            refine lv_iload hx hb dX5_goes_139 (lv_at hl 3 rfl) ?_
            refine lv_if_le (tgt := 151) hx hb dX5_goes_141 (by decide) (fun c_141_13 => ?_) (fun c_141_13 => ?_)
            · refine lv_iload hx hb dX5_goes_151 (lv_at hl 0 rfl) ?_
              refine lv_if_eq (tgt := 178) hx hb dX5_goes_153 (by decide) (fun c_153_14 => ?_) (fun c_153_14 => ?_)
              · refine lv_lload hx hb dX5_goes_178 (lv_at hl 1 rfl) ?_
                refine cx_callSi (va_runS (As := [.long (mm (((16 : Int32) * (mX5_mapped mh f8 p0)) + ((p2 >>> (((8 : Int32) + ((4 : Int32) * (nI (L - 1 - p1)))) &&& 31)) &&& (15 : Int32))).toNatClampNeg)]) (rest := []) ⟨hx, hb, hml, hown, hta⟩ (c_X5_rightsOf l (mm (((16 : Int32) * (mX5_mapped mh f8 p0)) + ((p2 >>> (((8 : Int32) + ((4 : Int32) * (nI (L - 1 - p1)))) &&& 31)) &&& (15 : Int32))).toNatClampNeg)) (va_cwS 1 hta (gS aw_698 aw_699 aw_43 aw_700) rfl rfl rfl (by decide +kernel) ⟨Nat.le_of_ble_eq_true rfl, Nat.le_of_ble_eq_true rfl⟩) cx_pre0 rfl rfl hl.1 rfl (lv_room (Nat.le_of_ble_eq_true rfl)) dX5_goes_180 ⟨Nat.le_of_ble_eq_true rfl, Nat.le_of_ble_eq_true rfl⟩) (fun r hw_16 => ?_)
                subst hw_16
                refine lv_iload hx hb dX5_goes_183 (lv_at hl 9 rfl) ?_
                refine cx_callSi (va_runS (As := [.int (mX5_rightsOf (mm (((16 : Int32) * (mX5_mapped mh f8 p0)) + ((p2 >>> (((8 : Int32) + ((4 : Int32) * (nI (L - 1 - p1)))) &&& 31)) &&& (15 : Int32))).toNatClampNeg)), .int p3]) (rest := []) ⟨hx, hb, hml, hown, hta⟩ (c_X5_does l (mX5_rightsOf (mm (((16 : Int32) * (mX5_mapped mh f8 p0)) + ((p2 >>> (((8 : Int32) + ((4 : Int32) * (nI (L - 1 - p1)))) &&& 31)) &&& (15 : Int32))).toNatClampNeg)) p3) (va_cwS 2 hta (gS aw_655 aw_656 aw_43 aw_657) rfl rfl rfl (by decide +kernel) ⟨Nat.le_of_ble_eq_true rfl, Nat.le_of_ble_eq_true rfl⟩) cx_pre0 rfl rfl hl.1 rfl (lv_room (Nat.le_of_ble_eq_true rfl)) dX5_goes_185 ⟨Nat.le_of_ble_eq_true rfl, Nat.le_of_ble_eq_true rfl⟩) (fun r hw_17 => ?_)
                subst hw_17
                refine lv_if_ne (tgt := 198) hx hb dX5_goes_188 (by decide) (fun c_188_17 => ?_) (fun c_188_17 => ?_)
                · refine lv_aload_n hx hb dX5_goes_198 rfl (lv_at hl 5 rfl) ?_
                  refine lv_iload hx hb dX5_goes_199 (lv_at hl 3 rfl) ?_
                  refine va_put (D := (dC, dI)) (ci := 5) (v := .int (nI (L - 1 - p1))) (ty := .int) (C := RX5) (T := TX5) (N := 30) hx hb hta inA_X5 tyX5 tyX5_ok nmX5 hown hK hP hD hS 0 rfl rfl 27 (by decide) (hta _ aw_538) (fun _ h9 => h9) rfl (by decide +kernel) rfl rfl (Nat.le_of_ble_eq_true rfl) dX5_goes_201 (fun H locs hP hD hS => ?_)
                  have hP : va_P (dC, dI) vwCl (MWl ga gk th L N mm f1 mr mh f8 en us eC eL eB eF eR eU eX f2 f3 f4 f5 f6 f7 f14 ff fa (mn + 1) (nI (L - 1 - p1)) cm (upd wa mn (((16 : Int32) * (mX5_mapped mh f8 p0)) + ((p2 >>> (((8 : Int32) + ((4 : Int32) * (nI (L - 1 - p1)))) &&& 31)) &&& (15 : Int32))))) H := hP
                  have hD : va_D A (MWl ga gk th L N mm f1 mr mh f8 en us eC eL eB eF eR eU eX f2 f3 f4 f5 f6 f7 f14 ff fa (mn + 1) (nI (L - 1 - p1)) cm (upd wa mn (((16 : Int32) * (mX5_mapped mh f8 p0)) + ((p2 >>> (((8 : Int32) + ((4 : Int32) * (nI (L - 1 - p1)))) &&& 31)) &&& (15 : Int32))))) := hD
                  refine lv_iconst (v := 1) hx hb dX5_goes_204 (by decide) ?_
                  exact W.zret (ty := .boolean) (v := (1 : Int32)) hx hb hr rfl (fun t ht hW => ⟨⟨(1 : Int32), (ff, fa, (mn + 1), nI (L - 1 - p1), upd wa mn (((16 : Int32) * (mX5_mapped mh f8 p0)) + ((p2 >>> (((8 : Int32) + ((4 : Int32) * (nI (L - 1 - p1)))) &&& 31)) &&& (15 : Int32)))), rfl, (by unfold mX5_goes; rewrite [if_pos c_14_1]; rewrite [if_pos c_30_2]; rewrite [if_neg c_106_3]; rewrite [if_neg c_124_4]; rewrite [if_pos c_129_12]; rewrite [if_neg c_188_17]; (first | done | rfl)), by rw [ht]; exact hP, va_K.moved hW.alike hK, hD⟩, hS.F ht⟩) hS.2.2 dX5_goes_205
                · refine lv_aload_n hx hb dX5_goes_191 rfl (lv_at hl 5 rfl) ?_
                  refine lv_iconst (v := 3) hx hb dX5_goes_192 (by decide) ?_
                  refine lv_iload_n hx hb dX5_goes_193 rfl (lv_at hl 7 rfl) ?_
                  have hFc : ∀ q, va_A (MWl ga gk th L N mm f1 mr mh f8 en us eC eL eB eF eR eU eX f2 f3 f4 f5 f6 f7 f14 ff fa (mn + 1) (-1 : Int32) cm (upd wa mn (((16 : Int32) * (mX5_mapped mh f8 p0)) + ((p2 >>> (((8 : Int32) + ((4 : Int32) * (nI (L - 1 - p1)))) &&& 31)) &&& (15 : Int32))))) H.size q → A q := cx_free hD hS hA
                  refine va_calli (va_runV (As := [.int (3 : Int32), .int (nI p1)]) (rest := []) ⟨hx, hb, hml, hown, hta⟩ (c_X5_fails l dC dI ga gk th L N mm f1 mr mh f8 en us eC eL eB eF eR eU eX f2 f3 f4 f5 f6 f7 f14 ff fa (mn + 1) (-1 : Int32) cm (upd wa mn (((16 : Int32) * (mX5_mapped mh f8 p0)) + ((p2 >>> (((8 : Int32) + ((4 : Int32) * (nI (L - 1 - p1)))) &&& 31)) &&& (15 : Int32)))) H.size (3 : Int32) (nI p1)) (cwV 2 hta (gV aw_666 aw_668 aw_26 aw_43 aw_669) rfl rfl rfl (by decide +kernel) ⟨Nat.le_of_ble_eq_true rfl, Nat.le_of_ble_eq_true rfl⟩) (cx_preVQ hK hP hN (va_recv hK hP (ci := 5) (q0 := 0) rfl rfl) hD) rfl rfl hl.1 rfl (lv_room (Nat.le_of_ble_eq_true rfl)) dX5_goes_194 ⟨Nat.le_of_ble_eq_true rfl, Nat.le_of_ble_eq_true rfl⟩) hS (fun q _ h => hFc q h) hFc (fun r_19 u t9 H1 locs ht hvm hw_19 hB hz1 hk1 hS => ?_)
                  obtain ⟨ff_19, fa_19⟩ := u
                  obtain ⟨hP, hK1, hD1⟩ := hB
                  rw [ht] at hP
                  have hD := hD1.weaken (fun _ _ _ h => hFc _ h)
                  clear hFc hz1 hk1 hK1 hD1 ht hvm
                  generalize H1 = H at hP hS ⊢
                  have hP : va_P (dC, dI) vwCl (MWl ga gk th L N mm f1 mr mh f8 en us eC eL eB eF eR eU eX f2 f3 f4 f5 f6 f7 f14 ff_19 fa_19 (mn + 1) (-1 : Int32) cm (upd wa mn (((16 : Int32) * (mX5_mapped mh f8 p0)) + ((p2 >>> (((8 : Int32) + ((4 : Int32) * (nI (L - 1 - p1)))) &&& 31)) &&& (15 : Int32))))) H := hP
                  have hD : va_D A (MWl ga gk th L N mm f1 mr mh f8 en us eC eL eB eF eR eU eX f2 f3 f4 f5 f6 f7 f14 ff_19 fa_19 (mn + 1) (-1 : Int32) cm (upd wa mn (((16 : Int32) * (mX5_mapped mh f8 p0)) + ((p2 >>> (((8 : Int32) + ((4 : Int32) * (nI (L - 1 - p1)))) &&& 31)) &&& (15 : Int32))))) := hD
                  have hzf : narrow .boolean (.int r_19) = .int r_19 := by have := hw_19; unfold mX5_fails at this; cases this; rfl
                  exact W.zret (ty := .boolean) (v := r_19) hx hb hr hzf (fun t ht hW => ⟨⟨r_19, (ff_19, fa_19, (mn + 1), (-1 : Int32), upd wa mn (((16 : Int32) * (mX5_mapped mh f8 p0)) + ((p2 >>> (((8 : Int32) + ((4 : Int32) * (nI (L - 1 - p1)))) &&& 31)) &&& (15 : Int32)))), rfl, (by unfold mX5_goes; rewrite [if_pos c_14_1]; rewrite [if_pos c_30_2]; rewrite [if_neg c_106_3]; rewrite [if_neg c_124_4]; rewrite [if_pos c_129_12]; rewrite [if_pos c_188_17]; rewrite [← hw_19]; (try dsimp only); (first | done | rfl)), by rw [ht]; exact hP, va_K.moved hW.alike hK, hD⟩, hS.F ht⟩) hS.2.2 dX5_goes_197
              · exact absurd (by decide) c_153_14
            · exact absurd c_129_12 c_141_13
          · refine lv_iconst (v := 1) hx hb dX5_goes_132 (by decide) ?_
            refine lv_goto (tgt := 137) hx hb dX5_goes_133 (by decide) ?_
            refine lv_istore (lv' := [(10, .int (1 : Int32)), (8, .long (mm (((16 : Int32) * (mX5_mapped mh f8 p0)) + ((p2 >>> (((8 : Int32) + ((4 : Int32) * (nI (L - 1 - p1)))) &&& 31)) &&& (15 : Int32))).toNatClampNeg)), (7, .int (((16 : Int32) * (mX5_mapped mh f8 p0)) + ((p2 >>> (((8 : Int32) + ((4 : Int32) * (nI (L - 1 - p1)))) &&& 31)) &&& (15 : Int32)))), (6, .int (nI (L - 1 - p1))), (5, .int (mX5_mapped mh f8 p0)), (0, .ref (ga 0)), (1, .int p0), (2, .int (nI p1)), (3, .int p2), (4, .int p3)]) hx hb dX5_goes_137 hl (by decide) rfl (fun ls hl => ?_)
            refine lv_iload hx hb dX5_goes_139 (lv_at hl 3 rfl) ?_
            refine lv_if_le (tgt := 151) hx hb dX5_goes_141 (by decide) (fun c_141_19 => ?_) (fun c_141_19 => ?_)
            · exact absurd c_141_19 c_129_12
            · refine lv_iload hx hb dX5_goes_144 (lv_at hl 0 rfl) ?_
              refine lv_if_ne (tgt := 151) hx hb dX5_goes_146 (by decide) (fun c_146_20 => ?_) (fun c_146_20 => ?_)
              · refine lv_iload hx hb dX5_goes_151 (lv_at hl 0 rfl) ?_
                refine lv_if_eq (tgt := 178) hx hb dX5_goes_153 (by decide) (fun c_153_21 => ?_) (fun c_153_21 => ?_)
                · exact absurd c_153_21 (by decide)
                · refine lv_lload hx hb dX5_goes_156 (lv_at hl 1 rfl) ?_
                  refine cx_callSi (va_runS (As := [.long (mm (((16 : Int32) * (mX5_mapped mh f8 p0)) + ((p2 >>> (((8 : Int32) + ((4 : Int32) * (nI (L - 1 - p1)))) &&& 31)) &&& (15 : Int32))).toNatClampNeg)]) (rest := []) ⟨hx, hb, hml, hown, hta⟩ (c_X5_frameOf l (mm (((16 : Int32) * (mX5_mapped mh f8 p0)) + ((p2 >>> (((8 : Int32) + ((4 : Int32) * (nI (L - 1 - p1)))) &&& 31)) &&& (15 : Int32))).toNatClampNeg)) (va_cwS 1 hta (gS aw_694 aw_695 aw_43 aw_696) rfl rfl rfl (by decide +kernel) ⟨Nat.le_of_ble_eq_true rfl, Nat.le_of_ble_eq_true rfl⟩) cx_pre0 rfl rfl hl.1 rfl (lv_room (Nat.le_of_ble_eq_true rfl)) dX5_goes_158 ⟨Nat.le_of_ble_eq_true rfl, Nat.le_of_ble_eq_true rfl⟩) (fun r hw_23 => ?_)
                  subst hw_23
                  refine lv_iconst (v := 1) hx hb dX5_goes_161 (by decide) ?_
                  refine lv_iconst (v := 4) hx hb dX5_goes_162 (by decide) ?_
                  refine lv_iload hx hb dX5_goes_163 (lv_at hl 3 rfl) ?_
                  refine lv_imul hx hb dX5_goes_165 ?_
                  refine lv_ishl hx hb dX5_goes_166 ?_
                  refine lv_irem hx hb dX5_goes_167 (cx_pow_ne (by omega)) ?_
                  refine lv_if_eq (tgt := 178) hx hb dX5_goes_168 (by decide) (fun c_168_23 => ?_) (fun c_168_23 => ?_)
                  · refine lv_lload hx hb dX5_goes_178 (lv_at hl 1 rfl) ?_
                    refine cx_callSi (va_runS (As := [.long (mm (((16 : Int32) * (mX5_mapped mh f8 p0)) + ((p2 >>> (((8 : Int32) + ((4 : Int32) * (nI (L - 1 - p1)))) &&& 31)) &&& (15 : Int32))).toNatClampNeg)]) (rest := []) ⟨hx, hb, hml, hown, hta⟩ (c_X5_rightsOf l (mm (((16 : Int32) * (mX5_mapped mh f8 p0)) + ((p2 >>> (((8 : Int32) + ((4 : Int32) * (nI (L - 1 - p1)))) &&& 31)) &&& (15 : Int32))).toNatClampNeg)) (va_cwS 1 hta (gS aw_698 aw_699 aw_43 aw_700) rfl rfl rfl (by decide +kernel) ⟨Nat.le_of_ble_eq_true rfl, Nat.le_of_ble_eq_true rfl⟩) cx_pre0 rfl rfl hl.1 rfl (lv_room (Nat.le_of_ble_eq_true rfl)) dX5_goes_180 ⟨Nat.le_of_ble_eq_true rfl, Nat.le_of_ble_eq_true rfl⟩) (fun r hw_25 => ?_)
                    subst hw_25
                    refine lv_iload hx hb dX5_goes_183 (lv_at hl 9 rfl) ?_
                    refine cx_callSi (va_runS (As := [.int (mX5_rightsOf (mm (((16 : Int32) * (mX5_mapped mh f8 p0)) + ((p2 >>> (((8 : Int32) + ((4 : Int32) * (nI (L - 1 - p1)))) &&& 31)) &&& (15 : Int32))).toNatClampNeg)), .int p3]) (rest := []) ⟨hx, hb, hml, hown, hta⟩ (c_X5_does l (mX5_rightsOf (mm (((16 : Int32) * (mX5_mapped mh f8 p0)) + ((p2 >>> (((8 : Int32) + ((4 : Int32) * (nI (L - 1 - p1)))) &&& 31)) &&& (15 : Int32))).toNatClampNeg)) p3) (va_cwS 2 hta (gS aw_655 aw_656 aw_43 aw_657) rfl rfl rfl (by decide +kernel) ⟨Nat.le_of_ble_eq_true rfl, Nat.le_of_ble_eq_true rfl⟩) cx_pre0 rfl rfl hl.1 rfl (lv_room (Nat.le_of_ble_eq_true rfl)) dX5_goes_185 ⟨Nat.le_of_ble_eq_true rfl, Nat.le_of_ble_eq_true rfl⟩) (fun r hw_26 => ?_)
                    subst hw_26
                    refine lv_if_ne (tgt := 198) hx hb dX5_goes_188 (by decide) (fun c_188_26 => ?_) (fun c_188_26 => ?_)
                    · refine lv_aload_n hx hb dX5_goes_198 rfl (lv_at hl 5 rfl) ?_
                      refine lv_iload hx hb dX5_goes_199 (lv_at hl 3 rfl) ?_
                      refine va_put (D := (dC, dI)) (ci := 5) (v := .int (nI (L - 1 - p1))) (ty := .int) (C := RX5) (T := TX5) (N := 30) hx hb hta inA_X5 tyX5 tyX5_ok nmX5 hown hK hP hD hS 0 rfl rfl 27 (by decide) (hta _ aw_538) (fun _ h9 => h9) rfl (by decide +kernel) rfl rfl (Nat.le_of_ble_eq_true rfl) dX5_goes_201 (fun H locs hP hD hS => ?_)
                      have hP : va_P (dC, dI) vwCl (MWl ga gk th L N mm f1 mr mh f8 en us eC eL eB eF eR eU eX f2 f3 f4 f5 f6 f7 f14 ff fa (mn + 1) (nI (L - 1 - p1)) cm (upd wa mn (((16 : Int32) * (mX5_mapped mh f8 p0)) + ((p2 >>> (((8 : Int32) + ((4 : Int32) * (nI (L - 1 - p1)))) &&& 31)) &&& (15 : Int32))))) H := hP
                      have hD : va_D A (MWl ga gk th L N mm f1 mr mh f8 en us eC eL eB eF eR eU eX f2 f3 f4 f5 f6 f7 f14 ff fa (mn + 1) (nI (L - 1 - p1)) cm (upd wa mn (((16 : Int32) * (mX5_mapped mh f8 p0)) + ((p2 >>> (((8 : Int32) + ((4 : Int32) * (nI (L - 1 - p1)))) &&& 31)) &&& (15 : Int32))))) := hD
                      refine lv_iconst (v := 1) hx hb dX5_goes_204 (by decide) ?_
                      exact W.zret (ty := .boolean) (v := (1 : Int32)) hx hb hr rfl (fun t ht hW => ⟨⟨(1 : Int32), (ff, fa, (mn + 1), nI (L - 1 - p1), upd wa mn (((16 : Int32) * (mX5_mapped mh f8 p0)) + ((p2 >>> (((8 : Int32) + ((4 : Int32) * (nI (L - 1 - p1)))) &&& 31)) &&& (15 : Int32)))), rfl, (by unfold mX5_goes; rewrite [if_pos c_14_1]; rewrite [if_pos c_30_2]; rewrite [if_neg c_106_3]; rewrite [if_neg c_124_4]; rewrite [if_neg c_129_12]; rewrite [if_pos c_168_23]; rewrite [if_neg c_188_26]; (first | done | rfl)), by rw [ht]; exact hP, va_K.moved hW.alike hK, hD⟩, hS.F ht⟩) hS.2.2 dX5_goes_205
                    · refine lv_aload_n hx hb dX5_goes_191 rfl (lv_at hl 5 rfl) ?_
                      refine lv_iconst (v := 3) hx hb dX5_goes_192 (by decide) ?_
                      refine lv_iload_n hx hb dX5_goes_193 rfl (lv_at hl 7 rfl) ?_
                      have hFc : ∀ q, va_A (MWl ga gk th L N mm f1 mr mh f8 en us eC eL eB eF eR eU eX f2 f3 f4 f5 f6 f7 f14 ff fa (mn + 1) (-1 : Int32) cm (upd wa mn (((16 : Int32) * (mX5_mapped mh f8 p0)) + ((p2 >>> (((8 : Int32) + ((4 : Int32) * (nI (L - 1 - p1)))) &&& 31)) &&& (15 : Int32))))) H.size q → A q := cx_free hD hS hA
                      refine va_calli (va_runV (As := [.int (3 : Int32), .int (nI p1)]) (rest := []) ⟨hx, hb, hml, hown, hta⟩ (c_X5_fails l dC dI ga gk th L N mm f1 mr mh f8 en us eC eL eB eF eR eU eX f2 f3 f4 f5 f6 f7 f14 ff fa (mn + 1) (-1 : Int32) cm (upd wa mn (((16 : Int32) * (mX5_mapped mh f8 p0)) + ((p2 >>> (((8 : Int32) + ((4 : Int32) * (nI (L - 1 - p1)))) &&& 31)) &&& (15 : Int32)))) H.size (3 : Int32) (nI p1)) (cwV 2 hta (gV aw_666 aw_668 aw_26 aw_43 aw_669) rfl rfl rfl (by decide +kernel) ⟨Nat.le_of_ble_eq_true rfl, Nat.le_of_ble_eq_true rfl⟩) (cx_preVQ hK hP hN (va_recv hK hP (ci := 5) (q0 := 0) rfl rfl) hD) rfl rfl hl.1 rfl (lv_room (Nat.le_of_ble_eq_true rfl)) dX5_goes_194 ⟨Nat.le_of_ble_eq_true rfl, Nat.le_of_ble_eq_true rfl⟩) hS (fun q _ h => hFc q h) hFc (fun r_28 u t9 H1 locs ht hvm hw_28 hB hz1 hk1 hS => ?_)
                      obtain ⟨ff_28, fa_28⟩ := u
                      obtain ⟨hP, hK1, hD1⟩ := hB
                      rw [ht] at hP
                      have hD := hD1.weaken (fun _ _ _ h => hFc _ h)
                      clear hFc hz1 hk1 hK1 hD1 ht hvm
                      generalize H1 = H at hP hS ⊢
                      have hP : va_P (dC, dI) vwCl (MWl ga gk th L N mm f1 mr mh f8 en us eC eL eB eF eR eU eX f2 f3 f4 f5 f6 f7 f14 ff_28 fa_28 (mn + 1) (-1 : Int32) cm (upd wa mn (((16 : Int32) * (mX5_mapped mh f8 p0)) + ((p2 >>> (((8 : Int32) + ((4 : Int32) * (nI (L - 1 - p1)))) &&& 31)) &&& (15 : Int32))))) H := hP
                      have hD : va_D A (MWl ga gk th L N mm f1 mr mh f8 en us eC eL eB eF eR eU eX f2 f3 f4 f5 f6 f7 f14 ff_28 fa_28 (mn + 1) (-1 : Int32) cm (upd wa mn (((16 : Int32) * (mX5_mapped mh f8 p0)) + ((p2 >>> (((8 : Int32) + ((4 : Int32) * (nI (L - 1 - p1)))) &&& 31)) &&& (15 : Int32))))) := hD
                      have hzf : narrow .boolean (.int r_28) = .int r_28 := by have := hw_28; unfold mX5_fails at this; cases this; rfl
                      exact W.zret (ty := .boolean) (v := r_28) hx hb hr hzf (fun t ht hW => ⟨⟨r_28, (ff_28, fa_28, (mn + 1), (-1 : Int32), upd wa mn (((16 : Int32) * (mX5_mapped mh f8 p0)) + ((p2 >>> (((8 : Int32) + ((4 : Int32) * (nI (L - 1 - p1)))) &&& 31)) &&& (15 : Int32)))), rfl, (by unfold mX5_goes; rewrite [if_pos c_14_1]; rewrite [if_pos c_30_2]; rewrite [if_neg c_106_3]; rewrite [if_neg c_124_4]; rewrite [if_neg c_129_12]; rewrite [if_pos c_168_23]; rewrite [if_pos c_188_26]; rewrite [← hw_28]; (try dsimp only); (first | done | rfl)), by rw [ht]; exact hP, va_K.moved hW.alike hK, hD⟩, hS.F ht⟩) hS.2.2 dX5_goes_197
                  · refine lv_aload_n hx hb dX5_goes_171 rfl (lv_at hl 5 rfl) ?_
                    refine lv_iconst (v := 4) hx hb dX5_goes_172 (by decide) ?_
                    refine lv_iload_n hx hb dX5_goes_173 rfl (lv_at hl 7 rfl) ?_
                    have hFc : ∀ q, va_A (MWl ga gk th L N mm f1 mr mh f8 en us eC eL eB eF eR eU eX f2 f3 f4 f5 f6 f7 f14 ff fa (mn + 1) (-1 : Int32) cm (upd wa mn (((16 : Int32) * (mX5_mapped mh f8 p0)) + ((p2 >>> (((8 : Int32) + ((4 : Int32) * (nI (L - 1 - p1)))) &&& 31)) &&& (15 : Int32))))) H.size q → A q := cx_free hD hS hA
                    refine va_calli (va_runV (As := [.int (4 : Int32), .int (nI p1)]) (rest := []) ⟨hx, hb, hml, hown, hta⟩ (c_X5_fails l dC dI ga gk th L N mm f1 mr mh f8 en us eC eL eB eF eR eU eX f2 f3 f4 f5 f6 f7 f14 ff fa (mn + 1) (-1 : Int32) cm (upd wa mn (((16 : Int32) * (mX5_mapped mh f8 p0)) + ((p2 >>> (((8 : Int32) + ((4 : Int32) * (nI (L - 1 - p1)))) &&& 31)) &&& (15 : Int32)))) H.size (4 : Int32) (nI p1)) (cwV 2 hta (gV aw_666 aw_668 aw_26 aw_43 aw_669) rfl rfl rfl (by decide +kernel) ⟨Nat.le_of_ble_eq_true rfl, Nat.le_of_ble_eq_true rfl⟩) (cx_preVQ hK hP hN (va_recv hK hP (ci := 5) (q0 := 0) rfl rfl) hD) rfl rfl hl.1 rfl (lv_room (Nat.le_of_ble_eq_true rfl)) dX5_goes_174 ⟨Nat.le_of_ble_eq_true rfl, Nat.le_of_ble_eq_true rfl⟩) hS (fun q _ h => hFc q h) hFc (fun r_29 u t9 H1 locs ht hvm hw_29 hB hz1 hk1 hS => ?_)
                    obtain ⟨ff_29, fa_29⟩ := u
                    obtain ⟨hP, hK1, hD1⟩ := hB
                    rw [ht] at hP
                    have hD := hD1.weaken (fun _ _ _ h => hFc _ h)
                    clear hFc hz1 hk1 hK1 hD1 ht hvm
                    generalize H1 = H at hP hS ⊢
                    have hP : va_P (dC, dI) vwCl (MWl ga gk th L N mm f1 mr mh f8 en us eC eL eB eF eR eU eX f2 f3 f4 f5 f6 f7 f14 ff_29 fa_29 (mn + 1) (-1 : Int32) cm (upd wa mn (((16 : Int32) * (mX5_mapped mh f8 p0)) + ((p2 >>> (((8 : Int32) + ((4 : Int32) * (nI (L - 1 - p1)))) &&& 31)) &&& (15 : Int32))))) H := hP
                    have hD : va_D A (MWl ga gk th L N mm f1 mr mh f8 en us eC eL eB eF eR eU eX f2 f3 f4 f5 f6 f7 f14 ff_29 fa_29 (mn + 1) (-1 : Int32) cm (upd wa mn (((16 : Int32) * (mX5_mapped mh f8 p0)) + ((p2 >>> (((8 : Int32) + ((4 : Int32) * (nI (L - 1 - p1)))) &&& 31)) &&& (15 : Int32))))) := hD
                    have hzf : narrow .boolean (.int r_29) = .int r_29 := by have := hw_29; unfold mX5_fails at this; cases this; rfl
                    exact W.zret (ty := .boolean) (v := r_29) hx hb hr hzf (fun t ht hW => ⟨⟨r_29, (ff_29, fa_29, (mn + 1), (-1 : Int32), upd wa mn (((16 : Int32) * (mX5_mapped mh f8 p0)) + ((p2 >>> (((8 : Int32) + ((4 : Int32) * (nI (L - 1 - p1)))) &&& 31)) &&& (15 : Int32)))), rfl, (by unfold mX5_goes; rewrite [if_pos c_14_1]; rewrite [if_pos c_30_2]; rewrite [if_neg c_106_3]; rewrite [if_neg c_124_4]; rewrite [if_neg c_129_12]; rewrite [if_neg c_168_23]; rewrite [← hw_29]; (try dsimp only); (first | done | rfl)), by rw [ht]; exact hP, va_K.moved hW.alike hK, hD⟩, hS.F ht⟩) hS.2.2 dX5_goes_177
              · exact absurd c_146_20 (by decide)
      · refine lv_aload_n hx hb dX5_goes_109 rfl (lv_at hl 4 rfl) ?_
        refine lv_iconst (v := 2) hx hb dX5_goes_110 (by decide) ?_
        refine lv_iload_n hx hb dX5_goes_111 rfl (lv_at hl 6 rfl) ?_
        have hFc : ∀ q, va_A (MWl ga gk th L N mm f1 mr mh f8 en us eC eL eB eF eR eU eX f2 f3 f4 f5 f6 f7 f14 ff fa (mn + 1) (-1 : Int32) cm (upd wa mn (((16 : Int32) * (mX5_mapped mh f8 p0)) + ((p2 >>> (((8 : Int32) + ((4 : Int32) * (nI (L - 1 - p1)))) &&& 31)) &&& (15 : Int32))))) H.size q → A q := cx_free hD hS hA
        refine va_calli (va_runV (As := [.int (2 : Int32), .int (nI p1)]) (rest := []) ⟨hx, hb, hml, hown, hta⟩ (c_X5_fails l dC dI ga gk th L N mm f1 mr mh f8 en us eC eL eB eF eR eU eX f2 f3 f4 f5 f6 f7 f14 ff fa (mn + 1) (-1 : Int32) cm (upd wa mn (((16 : Int32) * (mX5_mapped mh f8 p0)) + ((p2 >>> (((8 : Int32) + ((4 : Int32) * (nI (L - 1 - p1)))) &&& 31)) &&& (15 : Int32)))) H.size (2 : Int32) (nI p1)) (cwV 2 hta (gV aw_666 aw_668 aw_26 aw_43 aw_669) rfl rfl rfl (by decide +kernel) ⟨Nat.le_of_ble_eq_true rfl, Nat.le_of_ble_eq_true rfl⟩) (cx_preVQ hK hP hN (va_recv hK hP (ci := 5) (q0 := 0) rfl rfl) hD) rfl rfl hl.1 rfl (lv_room (Nat.le_of_ble_eq_true rfl)) dX5_goes_112 ⟨Nat.le_of_ble_eq_true rfl, Nat.le_of_ble_eq_true rfl⟩) hS (fun q _ h => hFc q h) hFc (fun r_30 u t9 H1 locs ht hvm hw_30 hB hz1 hk1 hS => ?_)
        obtain ⟨ff_30, fa_30⟩ := u
        obtain ⟨hP, hK1, hD1⟩ := hB
        rw [ht] at hP
        have hD := hD1.weaken (fun _ _ _ h => hFc _ h)
        clear hFc hz1 hk1 hK1 hD1 ht hvm
        generalize H1 = H at hP hS ⊢
        have hP : va_P (dC, dI) vwCl (MWl ga gk th L N mm f1 mr mh f8 en us eC eL eB eF eR eU eX f2 f3 f4 f5 f6 f7 f14 ff_30 fa_30 (mn + 1) (-1 : Int32) cm (upd wa mn (((16 : Int32) * (mX5_mapped mh f8 p0)) + ((p2 >>> (((8 : Int32) + ((4 : Int32) * (nI (L - 1 - p1)))) &&& 31)) &&& (15 : Int32))))) H := hP
        have hD : va_D A (MWl ga gk th L N mm f1 mr mh f8 en us eC eL eB eF eR eU eX f2 f3 f4 f5 f6 f7 f14 ff_30 fa_30 (mn + 1) (-1 : Int32) cm (upd wa mn (((16 : Int32) * (mX5_mapped mh f8 p0)) + ((p2 >>> (((8 : Int32) + ((4 : Int32) * (nI (L - 1 - p1)))) &&& 31)) &&& (15 : Int32))))) := hD
        have hzf : narrow .boolean (.int r_30) = .int r_30 := by have := hw_30; unfold mX5_fails at this; cases this; rfl
        exact W.zret (ty := .boolean) (v := r_30) hx hb hr hzf (fun t ht hW => ⟨⟨r_30, (ff_30, fa_30, (mn + 1), (-1 : Int32), upd wa mn (((16 : Int32) * (mX5_mapped mh f8 p0)) + ((p2 >>> (((8 : Int32) + ((4 : Int32) * (nI (L - 1 - p1)))) &&& 31)) &&& (15 : Int32)))), rfl, (by unfold mX5_goes; rewrite [if_pos c_14_1]; rewrite [if_pos c_30_2]; rewrite [if_pos c_106_3]; rewrite [← hw_30]; (try dsimp only); (first | done | rfl)), by rw [ht]; exact hP, va_K.moved hW.alike hK, hD⟩, hS.F ht⟩) hS.2.2 dX5_goes_115
    · refine lv_aload_n hx hb dX5_goes_33 rfl (lv_at hl 1 rfl) ?_
      refine lv_iconst (v := 5) hx hb dX5_goes_34 (by decide) ?_
      refine lv_iload_n hx hb dX5_goes_35 rfl (lv_at hl 3 rfl) ?_
      have hFc : ∀ q, va_A (MWl ga gk th L N mm f1 mr mh f8 en us eC eL eB eF eR eU eX f2 f3 f4 f5 f6 f7 f14 ff fa mn (-1 : Int32) cm wa) H.size q → A q := cx_free hD hS hA
      refine va_calli (va_runV (As := [.int (5 : Int32), .int (nI p1)]) (rest := []) ⟨hx, hb, hml, hown, hta⟩ (c_X5_fails l dC dI ga gk th L N mm f1 mr mh f8 en us eC eL eB eF eR eU eX f2 f3 f4 f5 f6 f7 f14 ff fa mn (-1 : Int32) cm wa H.size (5 : Int32) (nI p1)) (cwV 2 hta (gV aw_666 aw_668 aw_26 aw_43 aw_669) rfl rfl rfl (by decide +kernel) ⟨Nat.le_of_ble_eq_true rfl, Nat.le_of_ble_eq_true rfl⟩) (cx_preVQ hK hP hN (va_recv hK hP (ci := 5) (q0 := 0) rfl rfl) hD) rfl rfl hl.1 rfl (lv_room (Nat.le_of_ble_eq_true rfl)) dX5_goes_36 ⟨Nat.le_of_ble_eq_true rfl, Nat.le_of_ble_eq_true rfl⟩) hS (fun q _ h => hFc q h) hFc (fun r_31 u t9 H1 locs ht hvm hw_31 hB hz1 hk1 hS => ?_)
      obtain ⟨ff_31, fa_31⟩ := u
      obtain ⟨hP, hK1, hD1⟩ := hB
      rw [ht] at hP
      have hD := hD1.weaken (fun _ _ _ h => hFc _ h)
      clear hFc hz1 hk1 hK1 hD1 ht hvm
      generalize H1 = H at hP hS ⊢
      have hP : va_P (dC, dI) vwCl (MWl ga gk th L N mm f1 mr mh f8 en us eC eL eB eF eR eU eX f2 f3 f4 f5 f6 f7 f14 ff_31 fa_31 mn (-1 : Int32) cm wa) H := hP
      have hD : va_D A (MWl ga gk th L N mm f1 mr mh f8 en us eC eL eB eF eR eU eX f2 f3 f4 f5 f6 f7 f14 ff_31 fa_31 mn (-1 : Int32) cm wa) := hD
      have hzf : narrow .boolean (.int r_31) = .int r_31 := by have := hw_31; unfold mX5_fails at this; cases this; rfl
      exact W.zret (ty := .boolean) (v := r_31) hx hb hr hzf (fun t ht hW => ⟨⟨r_31, (ff_31, fa_31, mn, (-1 : Int32), wa), rfl, (by unfold mX5_goes; rewrite [if_pos c_14_1]; rewrite [if_neg c_30_2]; rewrite [← hw_31]; (try dsimp only); (first | done | rfl)), by rw [ht]; exact hP, va_K.moved hW.alike hK, hD⟩, hS.F ht⟩) hS.2.2 dX5_goes_39
  · refine lv_aload_n hx hb dX5_goes_17 rfl (lv_at hl 1 rfl) ?_
    refine lv_bipush (v := 6) hx hb dX5_goes_18 (by decide) ?_
    refine lv_iload_n hx hb dX5_goes_20 rfl (lv_at hl 3 rfl) ?_
    have hFc : ∀ q, va_A (MWl ga gk th L N mm f1 mr mh f8 en us eC eL eB eF eR eU eX f2 f3 f4 f5 f6 f7 f14 ff fa mn (-1 : Int32) cm wa) H.size q → A q := cx_free hD hS hA
    refine va_calli (va_runV (As := [.int (6 : Int32), .int (nI p1)]) (rest := []) ⟨hx, hb, hml, hown, hta⟩ (c_X5_fails l dC dI ga gk th L N mm f1 mr mh f8 en us eC eL eB eF eR eU eX f2 f3 f4 f5 f6 f7 f14 ff fa mn (-1 : Int32) cm wa H.size (6 : Int32) (nI p1)) (cwV 2 hta (gV aw_666 aw_668 aw_26 aw_43 aw_669) rfl rfl rfl (by decide +kernel) ⟨Nat.le_of_ble_eq_true rfl, Nat.le_of_ble_eq_true rfl⟩) (cx_preVQ hK hP hN (va_recv hK hP (ci := 5) (q0 := 0) rfl rfl) hD) rfl rfl hl.1 rfl (lv_room (Nat.le_of_ble_eq_true rfl)) dX5_goes_21 ⟨Nat.le_of_ble_eq_true rfl, Nat.le_of_ble_eq_true rfl⟩) hS (fun q _ h => hFc q h) hFc (fun r_32 u t9 H1 locs ht hvm hw_32 hB hz1 hk1 hS => ?_)
    obtain ⟨ff_32, fa_32⟩ := u
    obtain ⟨hP, hK1, hD1⟩ := hB
    rw [ht] at hP
    have hD := hD1.weaken (fun _ _ _ h => hFc _ h)
    clear hFc hz1 hk1 hK1 hD1 ht hvm
    generalize H1 = H at hP hS ⊢
    have hP : va_P (dC, dI) vwCl (MWl ga gk th L N mm f1 mr mh f8 en us eC eL eB eF eR eU eX f2 f3 f4 f5 f6 f7 f14 ff_32 fa_32 mn (-1 : Int32) cm wa) H := hP
    have hD : va_D A (MWl ga gk th L N mm f1 mr mh f8 en us eC eL eB eF eR eU eX f2 f3 f4 f5 f6 f7 f14 ff_32 fa_32 mn (-1 : Int32) cm wa) := hD
    have hzf : narrow .boolean (.int r_32) = .int r_32 := by have := hw_32; unfold mX5_fails at this; cases this; rfl
    exact W.zret (ty := .boolean) (v := r_32) hx hb hr hzf (fun t ht hW => ⟨⟨r_32, (ff_32, fa_32, mn, (-1 : Int32), wa), rfl, (by unfold mX5_goes; rewrite [if_neg c_14_1]; rewrite [← hw_32]; (try dsimp only); (first | done | rfl)), by rw [ht]; exact hP, va_K.moved hW.alike hK, hD⟩, hS.F ht⟩) hS.2.2 dX5_goes_24
