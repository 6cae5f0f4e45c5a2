def mMarkM (mn : Nat) (wa : Nat → Int32) (p0 : Int32) (w : Nat → Int64) : Nat → Int64 :=
  if (p0 - p0 / (3 : Int32) * (3 : Int32)) = (1 : Int32) then vp_updL w (wa (mn - 1)).toNatClampNeg ((w (wa (mn - 1)).toNatClampNeg) ||| (128 : Int64)) else w

set_option maxHeartbeats 4000000 in
set_option maxRecDepth 100000 in
theorem c_X5_mark (l : Launch) (dC : Nat → ClassId) (dI : Nat → Nat → Nat) (ga : Nat → Nat) (gk : Nat → ClassId) (th : Int32) (L : Nat) (N : Nat) (mm : Nat → Int64) (f1 : Int32) (mr : Nat → Int32) (mh : Nat → Int32) (f8 : Int32) (en : Nat) (us : Nat) (eC : Nat → Int32) (eL : Nat → Int32) (eB : Nat → Int32) (eF : Nat → Int32) (eR : Nat → Int32) (eU : Nat → Int32) (eX : Nat → Int32) (f2 : Int32) (f3 : Int32) (f4 : Int32) (f5 : Int32) (f6 : Int32) (f7 : Int32) (f14 : Int32) (ff : Int32) (fa : Int32) (mn : Nat) (lg : Int32) (cm : Int32) (wa : Nat → Int32)  (sz : Nat) (p0 : Int32) (hmn1 : 1 ≤ mn) (hmn4 : mn ≤ 4) (hwa : ∀ i, i < mn → vp_in (wa i) 4096) : Met l yX5_mark (wX5_mark :: AW) ({ frames := 0, cells := 0, slots := 0, locals := 0 }) (va_Pc [.ref (ga 0), .int p0] (CPrQ dC dI (MWl ga gk th L N mm f1 mr mh f8 en us eC eL eB eF eR eU eX f2 f3 f4 f5 f6 f7 f14 ff fa mn lg cm wa) [(gk 0, .long), (gk 1, .int), (gk 2, .int), (gk 3, .int), (gk 4, .int), (gk 5, .int), (gk 6, .int), (gk 7, .int), (gk 8, .int), (gk 9, .boolean), (gk 10, .int)] sz)) (va_Qv (fun (u : (Nat → Int64)) => u = mMarkM mn wa p0 (mMarkL wa mn 0 mm)) (fun (u : (Nat → Int64)) (t : State) => match u with | mm' => va_P (dC, dI) vwCl (MWl ga gk th L N mm' f1 mr mh f8 en us eC eL eB eF eR eU eX f2 f3 f4 f5 f6 f7 f14 ff fa mn lg cm wa) t.heap ∧ va_K (dC, dI) vwCl [(gk 0, .long), (gk 1, .int), (gk 2, .int), (gk 3, .int), (gk 4, .int), (gk 5, .int), (gk 6, .int), (gk 7, .int), (gk 8, .int), (gk 9, .boolean), (gk 10, .int)] t ∧ va_D (va_A (MWl ga gk th L N mm f1 mr mh f8 en us eC eL eB eF eR eU eX f2 f3 f4 f5 f6 f7 f14 ff fa mn lg cm wa) sz) (MWl ga gk th L N mm' f1 mr mh f8 en us eC eL eB eF eR eU eX f2 f3 f4 f5 f6 f7 f14 ff fa mn lg cm wa)) (va_A (MWl ga gk th L N mm f1 mr mh f8 en us eC eL eB eF eR eU eX f2 f3 f4 f5 f6 f7 f14 ff fa mn lg cm wa) sz)) 0 0 (va_A (MWl ga gk th L N mm f1 mr mh f8 en us eC eL eB eF eR eU eX f2 f3 f4 f5 f6 f7 f14 ff fa mn lg cm wa) sz) := by
  refine cx_of (cc := cX5_mark) (maxL := 3) (ret := none) (by decide) rfl (Nat.le_of_ble_eq_true rfl) ?_
  intro p e s m below meth c ls hx hb hr hts hown hlocks hml hnm hl hB
  have hta : ∀ w ∈ AW, w.before [.ref (ga 0), .int p0].toArray s = true := fun w h => hts w (List.mem_cons_of_mem _ h)
  have hl : lv_has ls 3 [(0, .ref (ga 0)), (1, .int p0)] := hl
  have hown : s.vm.findClass RX5 = some m.cls := hown
  obtain ⟨rfl, ⟨hP, hK, hN⟩, hD0⟩ := hB
  have hD := hD0.self (sz := s.heap.size)
  generalize hAe : va_A (MWl ga gk th L N mm f1 mr mh f8 en us eC eL eB eF eR eU eX f2 f3 f4 f5 f6 f7 f14 ff fa mn lg cm wa) s.heap.size = A at hD ⊢
  have hA : ∀ q : Nat, s.heap.size ≤ q → A q := fun q h => by rw [← hAe]; exact Or.inr h
  have hS : va_S A s.heap s.heap [] := va_S.rf
  have loop : ∀ (j i : Nat) (w : Nat → Int64), i + j = mn → mMarkL wa mn 0 mm = mMarkL wa j i w → ∀ (H : Heap) (locs : List Loc), va_P (dC, dI) vwCl (MWl ga gk th L N w f1 mr mh f8 en us eC eL eB eF eR eU eX f2 f3 f4 f5 f6 f7 f14 ff fa mn lg cm wa) H → va_D A (MWl ga gk th L N w f1 mr mh f8 en us eC eL eB eF eR eU eX f2 f3 f4 f5 f6 f7 f14 ff fa mn lg cm wa) → va_S A s.heap H locs → ∀ (ls : Array Slot), lv_has ls 3 [(2, .int (nI i)), (0, .ref (ga 0)), (1, .int p0)] → W p l e ({ frames := 0, cells := 0, slots := 0, locals := 0 }) s m [.ref (ga 0), .int p0].toArray below meth c H locs 0 0 (MQ below (va_Qv (fun (u : (Nat → Int64)) => u = mMarkM mn wa p0 (mMarkL wa mn 0 mm)) (fun (u : (Nat → Int64)) (t : State) => match u with | mm' => va_P (dC, dI) vwCl (MWl ga gk th L N mm' f1 mr mh f8 en us eC eL eB eF eR eU eX f2 f3 f4 f5 f6 f7 f14 ff fa mn lg cm wa) t.heap ∧ va_K (dC, dI) vwCl [(gk 0, .long), (gk 1, .int), (gk 2, .int), (gk 3, .int), (gk 4, .int), (gk 5, .int), (gk 6, .int), (gk 7, .int), (gk 8, .int), (gk 9, .boolean), (gk 10, .int)] t ∧ va_D A (MWl ga gk th L N mm' f1 mr mh f8 en us eC eL eB eF eR eU eX f2 f3 f4 f5 f6 f7 f14 ff fa mn lg cm wa)) A) [.ref (ga 0), .int p0].toArray s 0 0 A) (F0 m 2 ls []) := by
    intro j
    induction j with
    | zero =>
      intro i w hi hm H locs hP hD hS ls hl
      refine lv_iload_n hx hb dX5_mark_2 rfl (lv_at hl 0 rfl) ?_
      refine lv_aload_n hx hb dX5_mark_3 rfl (lv_at hl 1 rfl) ?_
      refine va_get (D := (dC, dI)) (ci := 5) (v := .int (nI mn)) (C := RX5) (T := TX5) (N := 30) hx hb hta inA_X5 hown hK hP 0 rfl rfl 26 (by decide) (hta _ aw_537) (fun _ h9 => h9) rfl dX5_mark_4 ?_
      refine lv_icmp_ge (tgt := 33) hx hb dX5_mark_7 (by decide) (fun c_7_0 => ?_) (fun c_7_0 => ?_)
      · refine lv_iload_n hx hb dX5_mark_33 rfl (lv_at hl 2 rfl) ?_
        refine lv_iconst (v := 3) hx hb dX5_mark_34 (by decide) ?_
        refine lv_irem hx hb dX5_mark_35 (by decide) ?_
        refine lv_iconst (v := 1) hx hb dX5_mark_36 (by decide) ?_
        refine lv_icmp_ne (tgt := 62) hx hb dX5_mark_37 (by decide) (fun c_37_1 => ?_) (fun c_37_1 => ?_)
        · exact W.vret hx hb hr (fun t ht hW => ⟨⟨w, rfl, (by rw [hm]; unfold mMarkM; rw [if_neg c_37_1]; rfl), by rw [ht]; exact hP, va_K.moved hW.alike hK, hD⟩, hS.F ht⟩) hS.2.2 dX5_mark_62
        · refine lv_aload_n hx hb dX5_mark_40 rfl (lv_at hl 1 rfl) ?_
          refine va_get (D := (dC, dI)) (ci := 5) (v := .ref (ga 1)) (C := RX5) (T := TX5) (N := 30) hx hb hta inA_X5 hown hK hP 0 rfl rfl 3 (by decide) (hta _ aw_514) (fun _ h9 => h9) rfl dX5_mark_41 ?_
          refine lv_aload_n hx hb dX5_mark_44 rfl (lv_at hl 1 rfl) ?_
          refine va_get (D := (dC, dI)) (ci := 5) (v := .ref (ga 11)) (C := RX5) (T := TX5) (N := 30) hx hb hta inA_X5 hown hK hP 0 rfl rfl 29 (by decide) (hta _ aw_540) (fun _ h9 => h9) rfl dX5_mark_45 ?_
          refine lv_aload_n hx hb dX5_mark_48 rfl (lv_at hl 1 rfl) ?_
          refine va_get (D := (dC, dI)) (ci := 5) (v := .int (nI mn)) (C := RX5) (T := TX5) (N := 30) hx hb hta inA_X5 hown hK hP 0 rfl rfl 26 (by decide) (hta _ aw_537) (fun _ h9 => h9) rfl dX5_mark_49 ?_
          refine lv_iconst (v := 1) hx hb dX5_mark_52 (by decide) ?_
          refine lv_isub hx hb dX5_mark_53 ?_
          rw [show (nI mn) - (1 : Int32) = nI (mn - 1) from pk_sub hmn1]
          refine va_iald hx hb hK hP 11 10 rfl rfl (vp_in_nI (by omega) (by omega)) dX5_mark_54 ?_
          rw [nI_clamp (show (mn - 1) < 2 ^ 31 by omega)]
          refine lv_dup2_11 hx hb dX5_mark_55 rfl rfl ?_
          refine va_lald hx hb hK hP 1 0 rfl rfl (hwa (mn - 1) (by omega)) dX5_mark_56 ?_
          refine lv_ldc2 (v := 128) hx hb hown (hta _ aw_706) dX5_mark_57 ?_
          refine lv_lor hx hb dX5_mark_60 ?_
          refine va_last hx hb hK hP hD hS 1 0 rfl rfl (hwa (mn - 1) (by omega)) dX5_mark_61 (fun H locs hP hD hS => ?_)
          have hP : va_P (dC, dI) vwCl (MWl ga gk th L N (vp_updL w (wa (mn - 1)).toNatClampNeg ((w (wa (mn - 1)).toNatClampNeg) ||| (128 : Int64))) f1 mr mh f8 en us eC eL eB eF eR eU eX f2 f3 f4 f5 f6 f7 f14 ff fa mn lg cm wa) H := hP
          have hD : va_D A (MWl ga gk th L N (vp_updL w (wa (mn - 1)).toNatClampNeg ((w (wa (mn - 1)).toNatClampNeg) ||| (128 : Int64))) f1 mr mh f8 en us eC eL eB eF eR eU eX f2 f3 f4 f5 f6 f7 f14 ff fa mn lg cm wa) := hD
          exact W.vret hx hb hr (fun t ht hW => ⟨⟨vp_updL w (wa (mn - 1)).toNatClampNeg ((w (wa (mn - 1)).toNatClampNeg) ||| (128 : Int64)), rfl, (by rw [hm]; unfold mMarkM; rw [if_pos c_37_1]; rfl), by rw [ht]; exact hP, va_K.moved hW.alike hK, hD⟩, hS.F ht⟩) hS.2.2 dX5_mark_62
      · exact absurd (nI_le (by omega) (by omega)) c_7_0
    | succ j ih =>
      intro i w hi hm H locs hP hD hS ls hl
      refine lv_iload_n hx hb dX5_mark_2 rfl (lv_at hl 0 rfl) ?_
      refine lv_aload_n hx hb dX5_mark_3 rfl (lv_at hl 1 rfl) ?_
      refine va_get (D := (dC, dI)) (ci := 5) (v := .int (nI mn)) (C := RX5) (T := TX5) (N := 30) hx hb hta inA_X5 hown hK hP 0 rfl rfl 26 (by decide) (hta _ aw_537) (fun _ h9 => h9) rfl dX5_mark_4 ?_
      refine lv_icmp_ge (tgt := 33) hx hb dX5_mark_7 (by decide) (fun c_7_2 => ?_) (fun c_7_2 => ?_)
      · exact absurd c_7_2 (nI_ge (by omega) (by omega))
      · refine lv_aload_n hx hb dX5_mark_10 rfl (lv_at hl 1 rfl) ?_
        refine va_get (D := (dC, dI)) (ci := 5) (v := .ref (ga 1)) (C := RX5) (T := TX5) (N := 30) hx hb hta inA_X5 hown hK hP 0 rfl rfl 3 (by decide) (hta _ aw_514) (fun _ h9 => h9) rfl dX5_mark_11 ?_
        refine lv_aload_n hx hb dX5_mark_14 rfl (lv_at hl 1 rfl) ?_
        refine va_get (D := (dC, dI)) (ci := 5) (v := .ref (ga 11)) (C := RX5) (T := TX5) (N := 30) hx hb hta inA_X5 hown hK hP 0 rfl rfl 29 (by decide) (hta _ aw_540) (fun _ h9 => h9) rfl dX5_mark_15 ?_
        refine lv_iload_n hx hb dX5_mark_18 rfl (lv_at hl 0 rfl) ?_
        refine va_iald hx hb hK hP 11 10 rfl rfl (vp_in_nI (by omega) (by omega)) dX5_mark_19 ?_
        rw [nI_clamp (show i < 2 ^ 31 by omega)]
        refine lv_dup2_11 hx hb dX5_mark_20 rfl rfl ?_
        refine va_lald hx hb hK hP 1 0 rfl rfl (hwa i (by omega)) dX5_mark_21 ?_
        refine lv_ldc2 (v := 64) hx hb hown (hta _ aw_705) dX5_mark_22 ?_
        refine lv_lor hx hb dX5_mark_25 ?_
        refine va_last hx hb hK hP hD hS 1 0 rfl rfl (hwa i (by omega)) dX5_mark_26 (fun H locs hP hD hS => ?_)
        have hP : va_P (dC, dI) vwCl (MWl ga gk th L N (vp_updL w (wa i).toNatClampNeg ((w (wa i).toNatClampNeg) ||| (64 : Int64))) f1 mr mh f8 en us eC eL eB eF eR eU eX f2 f3 f4 f5 f6 f7 f14 ff fa mn lg cm wa) H := hP
        have hD : va_D A (MWl ga gk th L N (vp_updL w (wa i).toNatClampNeg ((w (wa i).toNatClampNeg) ||| (64 : Int64))) f1 mr mh f8 en us eC eL eB eF eR eU eX f2 f3 f4 f5 f6 f7 f14 ff fa mn lg cm wa) := hD
        refine lv_iinc (v := nI (i + 1)) (lv' := [(2, .int (nI (i + 1))), (0, .ref (ga 0)), (1, .int p0)]) hx hb dX5_mark_27 hl (k := 0) rfl (cx_inc i 1 rfl) (by decide) rfl (fun ls hl => ?_)
        refine lv_goto (tgt := 2) hx hb dX5_mark_30 (by decide) ?_
        exact ih (i + 1) _ (by omega) (by rw [hm]; rfl) H locs hP hD hS ls (lv_sub hl [0, 1, 2] rfl)
  refine lv_iconst (v := 0) hx hb dX5_mark_0 (by decide) ?_
  refine lv_istore_n (lv' := [(2, .int (0 : Int32)), (0, .ref (ga 0)), (1, .int p0)]) hx hb dX5_mark_1 rfl hl (by decide) rfl (fun ls hl => ?_)
  exact loop mn 0 mm (by omega) rfl s.heap [] hP hD hS ls (lv_sub hl [0, 1, 2] rfl)
/-- PageRowsModel.told -/
def mX5_told (f7 : Int32) (ff : Int32) (fa : Int32) (cm : Int32) (p0 : Int32) : Int32 × Int32 × Int32 × Int32 :=
  if p0 = 0 then
    (ff, (-1 : Int32), fa, f7 + (1 : Int32))
  else
    ((0 : Int32), cm, (-1 : Int32), f7 + (0 : Int32))
set_option maxHeartbeats 4000000 in
set_option maxRecDepth 100000 in
theorem c_X5_told (l : Launch) (dC : Nat → ClassId) (dI : Nat → Nat → Nat) (ga : Nat → Nat) (gk : Nat → ClassId) (th : Int32) (L : Nat) (N : Nat) (mm : Nat → Int64) (f1 : Int32) (mr : Nat → Int32) (mh : Nat → Int32) (f8 : Int32) (en : Nat) (us : Nat) (eC : Nat → Int32) (eL : Nat → Int32) (eB : Nat → Int32) (eF : Nat → Int32) (eR : Nat → Int32) (eU : Nat → Int32) (eX : Nat → Int32) (f2 : Int32) (f3 : Int32) (f4 : Int32) (f5 : Int32) (f6 : Int32) (f7 : Int32) (f14 : Int32) (ff : Int32) (fa : Int32) (mn : Nat) (lg : Int32) (cm : Int32) (wa : Nat → Int32)  (sz : Nat) (p0 : Int32)  : Met l yX5_told (wX5_told :: AW) ({ frames := 0, cells := 0, slots := 0, locals := 0 }) (va_Pc [.ref (ga 0), .int p0] (CPrQ dC dI (MWl ga gk th L N mm f1 mr mh f8 en us eC eL eB eF eR eU eX f2 f3 f4 f5 f6 f7 f14 ff fa mn lg cm wa) [(gk 0, .long), (gk 1, .int), (gk 2, .int), (gk 3, .int), (gk 4, .int), (gk 5, .int), (gk 6, .int), (gk 7, .int), (gk 8, .int), (gk 9, .boolean), (gk 10, .int)] sz)) (va_Qi (fun (r : Int32) (u : Int32 × Int32 × Int32) => (r, u) = mX5_told f7 ff fa cm p0) (fun (u : Int32 × Int32 × Int32) (t : State) => match u with | (f2', f3', f7') => va_P (dC, dI) vwCl (MWl ga gk th L N mm f1 mr mh f8 en us eC eL eB eF eR eU eX f2' f3' f4 f5 f6 f7' f14 ff fa mn lg cm wa) t.heap ∧ va_K (dC, dI) vwCl [(gk 0, .long), (gk 1, .int), (gk 2, .int), (gk 3, .int), (gk 4, .int), (gk 5, .int), (gk 6, .int), (gk 7, .int), (gk 8, .int), (gk 9, .boolean), (gk 10, .int)] t ∧ va_D (va_A (MWl ga gk th L N mm f1 mr mh f8 en us eC eL eB eF eR eU eX f2 f3 f4 f5 f6 f7 f14 ff fa mn lg cm wa) sz) (MWl ga gk th L N mm f1 mr mh f8 en us eC eL eB eF eR eU eX f2' f3' f4 f5 f6 f7' f14 ff fa mn lg cm wa)) (va_A (MWl ga gk th L N mm f1 mr mh f8 en us eC eL eB eF eR eU eX f2 f3 f4 f5 f6 f7 f14 ff fa mn lg cm wa) sz)) 0 0 (va_A (MWl ga gk th L N mm f1 mr mh f8 en us eC eL eB eF eR eU eX f2 f3 f4 f5 f6 f7 f14 ff fa mn lg cm wa) sz) := by
  refine cx_of (cc := cX5_told) (maxL := 2) (ret := some .int) (by decide) rfl (Nat.le_of_ble_eq_true rfl) ?_
  intro p e s m below meth c ls hx hb hr hts hown hlocks hml hnm hl hB
  have hta : ∀ w ∈ AW, w.before [.ref (ga 0), .int p0].toArray s = true := fun w h => hts w (List.mem_cons_of_mem _ h)
  have hl : lv_has ls 2 [(0, .ref (ga 0)), (1, .int p0)] := hl
  have hown : s.vm.findClass RX5 = some m.cls := hown
  obtain ⟨rfl, ⟨hP, hK, hN⟩, hD0⟩ := hB
  have hD := hD0.self (sz := s.heap.size)
  generalize hAe : va_A (MWl ga gk th L N mm f1 mr mh f8 en us eC eL eB eF eR eU eX f2 f3 f4 f5 f6 f7 f14 ff fa mn lg cm wa) s.heap.size = A at hD ⊢
  have hA : ∀ q : Nat, s.heap.size ≤ q → A q := fun q h => by rw [← hAe]; exact Or.inr h
  have hS : va_S A s.heap s.heap [] := va_S.rf
  refine lv_aload_n hx hb dX5_told_0 rfl (lv_at hl 0 rfl) ?_
  refine lv_iload_n hx hb dX5_told_1 rfl (lv_at hl 1 rfl) ?_
  refine lv_if_eq (tgt := 12) hx hb dX5_told_2 (by decide) (fun c_2_0 => ?_) (fun c_2_0 => ?_)
  · refine lv_iconst (v := (-1)) hx hb dX5_told_12 (by decide) ?_
    refine va_put (D := (dC, dI)) (ci := 5) (v := .int (-1 : Int32)) (ty := .int) (C := RX5) (T := TX5) (N := 30) hx hb hta inA_X5 tyX5 tyX5_ok nmX5 hown hK hP hD hS 0 rfl rfl 17 (by decide) (hta _ aw_528) (fun _ h9 => h9) rfl (by decide +kernel) rfl rfl (Nat.le_of_ble_eq_true rfl) dX5_told_13 (fun H locs hP hD hS => ?_)
    have hP : va_P (dC, dI) vwCl (MWl ga gk th L N mm f1 mr mh f8 en us eC eL eB eF eR eU eX (-1 : Int32) f3 f4 f5 f6 f7 f14 ff fa mn lg cm wa) H := hP
    have hD : va_D A (MWl ga gk th L N mm f1 mr mh f8 en us eC eL eB eF eR eU eX (-1 : Int32) f3 f4 f5 f6 f7 f14 ff fa mn lg cm wa) := hD
    refine lv_aload_n hx hb dX5_told_16 rfl (lv_at hl 0 rfl) ?_
    refine lv_iload_n hx hb dX5_told_17 rfl (lv_at hl 1 rfl) ?_
    refine lv_if_eq (tgt := 25) hx hb dX5_told_18 (by decide) (fun c_18_1 => ?_) (fun c_18_1 => ?_)
    · refine lv_aload_n hx hb dX5_told_25 rfl (lv_at hl 0 rfl) ?_
      refine va_get (D := (dC, dI)) (ci := 5) (v := .int fa) (C := RX5) (T := TX5) (N := 30) hx hb hta inA_X5 hown hK hP 0 rfl rfl 25 (by decide) (hta _ aw_536) (fun _ h9 => h9) rfl dX5_told_26 ?_
      refine va_put (D := (dC, dI)) (ci := 5) (v := .int fa) (ty := .int) (C := RX5) (T := TX5) (N := 30) hx hb hta inA_X5 tyX5 tyX5_ok nmX5 hown hK hP hD hS 0 rfl rfl 18 (by decide) (hta _ aw_529) (fun _ h9 => h9) rfl (by decide +kernel) rfl rfl (Nat.le_of_ble_eq_true rfl) dX5_told_29 (fun H locs hP hD hS => ?_)
      have hP : va_P (dC, dI) vwCl (MWl ga gk th L N mm f1 mr mh f8 en us eC eL eB eF eR eU eX (-1 : Int32) fa f4 f5 f6 f7 f14 ff fa mn lg cm wa) H := hP
      have hD : va_D A (MWl ga gk th L N mm f1 mr mh f8 en us eC eL eB eF eR eU eX (-1 : Int32) fa f4 f5 f6 f7 f14 ff fa mn lg cm wa) := hD
      refine lv_aload_n hx hb dX5_told_32 rfl (lv_at hl 0 rfl) ?_
      refine lv_dup hx hb dX5_told_33 rfl ?_
      refine va_get (D := (dC, dI)) (ci := 5) (v := .int f7) (C := RX5) (T := TX5) (N := 30) hx hb hta inA_X5 hown hK hP 0 rfl rfl 22 (by decide) (hta _ aw_533) (fun _ h9 => h9) rfl dX5_told_34 ?_
      refine lv_iload_n hx hb dX5_told_37 rfl (lv_at hl 1 rfl) ?_
      refine lv_if_eq (tgt := 45) hx hb dX5_told_38 (by decide) (fun c_38_2 => ?_) (fun c_38_2 => ?_)
      · refine lv_iconst (v := 1) hx hb dX5_told_45 (by decide) ?_
        refine lv_iadd hx hb dX5_told_46 ?_
        refine va_put (D := (dC, dI)) (ci := 5) (v := .int (f7 + (1 : Int32))) (ty := .int) (C := RX5) (T := TX5) (N := 30) hx hb hta inA_X5 tyX5 tyX5_ok nmX5 hown hK hP hD hS 0 rfl rfl 22 (by decide) (hta _ aw_533) (fun _ h9 => h9) rfl (by decide +kernel) rfl rfl (Nat.le_of_ble_eq_true rfl) dX5_told_47 (fun H locs hP hD hS => ?_)
        have hP : va_P (dC, dI) vwCl (MWl ga gk th L N mm f1 mr mh f8 en us eC eL eB eF eR eU eX (-1 : Int32) fa f4 f5 f6 (f7 + (1 : Int32)) f14 ff fa mn lg cm wa) H := hP
        have hD : va_D A (MWl ga gk th L N mm f1 mr mh f8 en us eC eL eB eF eR eU eX (-1 : Int32) fa f4 f5 f6 (f7 + (1 : Int32)) f14 ff fa mn lg cm wa) := hD
        refine lv_iload_n hx hb dX5_told_50 rfl (lv_at hl 1 rfl) ?_
        refine lv_if_eq (tgt := 58) hx hb dX5_told_51 (by decide) (fun c_51_3 => ?_) (fun c_51_3 => ?_)
        · refine lv_aload_n hx hb dX5_told_58 rfl (lv_at hl 0 rfl) ?_
          refine va_get (D := (dC, dI)) (ci := 5) (v := .int ff) (C := RX5) (T := TX5) (N := 30) hx hb hta inA_X5 hown hK hP 0 rfl rfl 24 (by decide) (hta _ aw_535) (fun _ h9 => h9) rfl dX5_told_59 ?_
          exact W.iret (v := ff) hx hb hr (fun t ht hW => ⟨⟨ff, ((-1 : Int32), fa, f7 + (1 : Int32)), rfl, (by unfold mX5_told; rewrite [if_pos c_2_0]; (first | done | rfl)), by rw [ht]; exact hP, va_K.moved hW.alike hK, hD⟩, hS.F ht⟩) hS.2.2 dX5_told_62
        · exact absurd c_2_0 c_51_3
      · exact absurd c_2_0 c_38_2
    · exact absurd c_2_0 c_18_1
  · refine lv_aload_n hx hb dX5_told_5 rfl (lv_at hl 0 rfl) ?_
    refine va_get (D := (dC, dI)) (ci := 5) (v := .int cm) (C := RX5) (T := TX5) (N := 30) hx hb hta inA_X5 hown hK hP 0 rfl rfl 28 (by decide) (hta _ aw_539) (fun _ h9 => h9) rfl dX5_told_6 ?_
    refine lv_goto (tgt := 13) hx hb dX5_told_9 (by decide) ?_
    refine va_put (D := (dC, dI)) (ci := 5) (v := .int cm) (ty := .int) (C := RX5) (T := TX5) (N := 30) hx hb hta inA_X5 tyX5 tyX5_ok nmX5 hown hK hP hD hS 0 rfl rfl 17 (by decide) (hta _ aw_528) (fun _ h9 => h9) rfl (by decide +kernel) rfl rfl (Nat.le_of_ble_eq_true rfl) dX5_told_13 (fun H locs hP hD hS => ?_)
    have hP : va_P (dC, dI) vwCl (MWl ga gk th L N mm f1 mr mh f8 en us eC eL eB eF eR eU eX cm f3 f4 f5 f6 f7 f14 ff fa mn lg cm wa) H := hP
    have hD : va_D A (MWl ga gk th L N mm f1 mr mh f8 en us eC eL eB eF eR eU eX cm f3 f4 f5 f6 f7 f14 ff fa mn lg cm wa) := hD
    refine lv_aload_n hx hb dX5_told_16 rfl (lv_at hl 0 rfl) ?_
    refine lv_iload_n hx hb dX5_told_17 rfl (lv_at hl 1 rfl) ?_
    refine lv_if_eq (tgt := 25) hx hb dX5_told_18 (by decide) (fun c_18_4 => ?_) (fun c_18_4 => ?_)
    · exact absurd c_18_4 c_2_0
    · refine lv_iconst (v := (-1)) hx hb dX5_told_21 (by decide) ?_
      refine lv_goto (tgt := 29) hx hb dX5_told_22 (by decide) ?_
      refine va_put (D := (dC, dI)) (ci := 5) (v := .int (-1 : Int32)) (ty := .int) (C := RX5) (T := TX5) (N := 30) hx hb hta inA_X5 tyX5 tyX5_ok nmX5 hown hK hP hD hS 0 rfl rfl 18 (by decide) (hta _ aw_529) (fun _ h9 => h9) rfl (by decide +kernel) rfl rfl (Nat.le_of_ble_eq_true rfl) dX5_told_29 (fun H locs hP hD hS => ?_)
      have hP : va_P (dC, dI) vwCl (MWl ga gk th L N mm f1 mr mh f8 en us eC eL eB eF eR eU eX cm (-1 : Int32) f4 f5 f6 f7 f14 ff fa mn lg cm wa) H := hP
      have hD : va_D A (MWl ga gk th L N mm f1 mr mh f8 en us eC eL eB eF eR eU eX cm (-1 : Int32) f4 f5 f6 f7 f14 ff fa mn lg cm wa) := hD
      refine lv_aload_n hx hb dX5_told_32 rfl (lv_at hl 0 rfl) ?_
      refine lv_dup hx hb dX5_told_33 rfl ?_
      refine va_get (D := (dC, dI)) (ci := 5) (v := .int f7) (C := RX5) (T := TX5) (N := 30) hx hb hta inA_X5 hown hK hP 0 rfl rfl 22 (by decide) (hta _ aw_533) (fun _ h9 => h9) rfl dX5_told_34 ?_
      refine lv_iload_n hx hb dX5_told_37 rfl (lv_at hl 1 rfl) ?_
      refine lv_if_eq (tgt := 45) hx hb dX5_told_38 (by decide) (fun c_38_5 => ?_) (fun c_38_5 => ?_)
      · exact absurd c_38_5 c_2_0
      · refine lv_iconst (v := 0) hx hb dX5_told_41 (by decide) ?_
        refine lv_goto (tgt := 46) hx hb dX5_told_42 (by decide) ?_
        refine lv_iadd hx hb dX5_told_46 ?_
        refine va_put (D := (dC, dI)) (ci := 5) (v := .int (f7 + (0 : Int32))) (ty := .int) (C := RX5) (T := TX5) (N := 30) hx hb hta inA_X5 tyX5 tyX5_ok nmX5 hown hK hP hD hS 0 rfl rfl 22 (by decide) (hta _ aw_533) (fun _ h9 => h9) rfl (by decide +kernel) rfl rfl (Nat.le_of_ble_eq_true rfl) dX5_told_47 (fun H locs hP hD hS => ?_)
        have hP : va_P (dC, dI) vwCl (MWl ga gk th L N mm f1 mr mh f8 en us eC eL eB eF eR eU eX cm (-1 : Int32) f4 f5 f6 (f7 + (0 : Int32)) f14 ff fa mn lg cm wa) H := hP
        have hD : va_D A (MWl ga gk th L N mm f1 mr mh f8 en us eC eL eB eF eR eU eX cm (-1 : Int32) f4 f5 f6 (f7 + (0 : Int32)) f14 ff fa mn lg cm wa) := hD
        refine lv_iload_n hx hb dX5_told_50 rfl (lv_at hl 1 rfl) ?_
        refine lv_if_eq (tgt := 58) hx hb dX5_told_51 (by decide) (fun c_51_6 => ?_) (fun c_51_6 => ?_)
        · exact absurd c_51_6 c_2_0
        · refine lv_iconst (v := 0) hx hb dX5_told_54 (by decide) ?_
          refine lv_goto (tgt := 62) hx hb dX5_told_55 (by decide) ?_
          exact W.iret (v := (0 : Int32)) hx hb hr (fun t ht hW => ⟨⟨(0 : Int32), (cm, (-1 : Int32), f7 + (0 : Int32)), rfl, (by unfold mX5_told; rewrite [if_neg c_2_0]; (first | done | rfl)), by rw [ht]; exact hP, va_K.moved hW.alike hK, hD⟩, hS.F ht⟩) hS.2.2 dX5_told_62
/-- PageRowsModel.byEntry -/
def mX5_byEntry (L : Nat) (mh : Nat → Int32) (f8 : Int32) (us : Nat) (eL : Nat → Int32) (eF : Nat → Int32) (eR : Nat → Int32) (eU : Nat → Int32) (f5 : Int32) (ff : Int32) (fa : Int32) (cm : Int32) (p0 : Nat) (p1 : Int32) (p2 : Int32) : Int32 × Nat × (Nat → Int32) × Int32 × Int32 × Int32 × Int32 :=
  match mX5_use us eU p0 with
  | (us_1, eU_1) =>
    if (mX5_does (eR p0) p2) = 0 then
      match mX5_fails (3 : Int32) (nI L) with
      | (r_5, ff_5, fa_5) =>
        (r_5, us_1, eU_1, f5 + (1 : Int32), ff_5, fa_5, cm)
    else
      match mX5_ends L mh f8 ff fa cm (eF p0) (eL p0) p1 with
      | (r_4, ff_4, fa_4, cm_4) =>
        (r_4, us_1, eU_1, f5 + (1 : Int32), ff_4, fa_4, cm_4)
set_option maxHeartbeats 4000000 in
set_option maxRecDepth 100000 in
theorem c_X5_byEntry (l : Launch) (dC : Nat → ClassId) (dI : Nat → Nat → Nat) (ga : Nat → Nat) (gk : Nat → ClassId) (th : Int32) (L : Nat) (N : Nat) (mm : Nat → Int64) (f1 : Int32) (mr : Nat → Int32) (mh : Nat → Int32) (f8 : Int32) (en : Nat) (us : Nat) (eC : Nat → Int32) (eL : Nat → Int32) (eB : Nat → Int32) (eF : Nat → Int32) (eR : Nat → Int32) (eU : Nat → Int32) (eX : Nat → Int32) (f2 : Int32) (f3 : Int32) (f4 : Int32) (f5 : Int32) (f6 : Int32) (f7 : Int32) (f14 : Int32) (ff : Int32) (fa : Int32) (mn : Nat) (lg : Int32) (cm : Int32) (wa : Nat → Int32)  (sz : Nat) (p0 : Nat) (p1 : Int32) (p2 : Int32) (hp : p0 < 32) : Met l yX5_byEntry (wX5_byEntry :: AW) ({ frames := 3, cells := 0, slots := 0, locals := 66 }) (va_Pc [.ref (ga 0), .int (nI p0), .int p1, .int p2] (CPrQ dC dI (MWl ga gk th L N mm f1 mr mh f8 en us eC eL eB eF eR eU eX f2 f3 f4 f5 f6 f7 f14 ff fa mn lg cm wa) [(gk 0, .long), (gk 1, .int), (gk 2, .int), (gk 3, .int), (gk 4, .int), (gk 5, .int), (gk 6, .int), (gk 7, .int), (gk 8, .int), (gk 9, .boolean), (gk 10, .int)] sz)) (va_Qi (fun (r : Int32) (u : Nat × (Nat → Int32) × Int32 × Int32 × Int32 × Int32) => (r, u) = mX5_byEntry L mh f8 us eL eF eR eU f5 ff fa cm p0 p1 p2) (fun (u : Nat × (Nat → Int32) × Int32 × Int32 × Int32 × Int32) (t : State) => match u with | (us', eU', f5', ff', fa', cm') => va_P (dC, dI) vwCl (MWl ga gk th L N mm f1 mr mh f8 en us' eC eL eB eF eR eU' eX f2 f3 f4 f5' f6 f7 f14 ff' fa' mn lg cm' wa) t.heap ∧ va_K (dC, dI) vwCl [(gk 0, .long), (gk 1, .int), (gk 2, .int), (gk 3, .int), (gk 4, .int), (gk 5, .int), (gk 6, .int), (gk 7, .int), (gk 8, .int), (gk 9, .boolean), (gk 10, .int)] t ∧ va_D (va_A (MWl ga gk th L N mm f1 mr mh f8 en us eC eL eB eF eR eU eX f2 f3 f4 f5 f6 f7 f14 ff fa mn lg cm wa) sz) (MWl ga gk th L N mm f1 mr mh f8 en us' eC eL eB eF eR eU' eX f2 f3 f4 f5' f6 f7 f14 ff' fa' mn lg cm' wa)) (va_A (MWl ga gk th L N mm f1 mr mh f8 en us eC eL eB eF eR eU eX f2 f3 f4 f5 f6 f7 f14 ff fa mn lg cm wa) sz)) 0 0 (va_A (MWl ga gk th L N mm f1 mr mh f8 en us eC eL eB eF eR eU eX f2 f3 f4 f5 f6 f7 f14 ff fa mn lg cm wa) sz) := by
  refine cx_of (cc := cX5_byEntry) (maxL := 4) (ret := some .boolean) (by decide) rfl (Nat.le_of_ble_eq_true rfl) ?_
  intro p e s m below meth c ls hx hb hr hts hown hlocks hml hnm hl hB
  have hta : ∀ w ∈ AW, w.before [.ref (ga 0), .int (nI p0), .int p1, .int p2].toArray s = true := fun w h => hts w (List.mem_cons_of_mem _ h)
  have hl : lv_has ls 4 [(0, .ref (ga 0)), (1, .int (nI p0)), (2, .int p1), (3, .int p2)] := hl
  have hown : s.vm.findClass RX5 = some m.cls := hown
  obtain ⟨rfl, ⟨hP, hK, hN⟩, hD0⟩ := hB
  have hD := hD0.self (sz := s.heap.size)
  generalize hAe : va_A (MWl ga gk th L N mm f1 mr mh f8 en us eC eL eB eF eR eU eX f2 f3 f4 f5 f6 f7 f14 ff fa mn lg cm wa) s.heap.size = A at hD ⊢
  have hA : ∀ q : Nat, s.heap.size ≤ q → A q := fun q h => by rw [← hAe]; exact Or.inr h
  have hS : va_S A s.heap s.heap [] := va_S.rf
  refine lv_aload_n hx hb dX5_byEntry_0 rfl (lv_at hl 0 rfl) ?_
  refine lv_dup hx hb dX5_byEntry_1 rfl ?_
  refine va_get (D := (dC, dI)) (ci := 5) (v := .int f5) (C := RX5) (T := TX5) (N := 30) hx hb hta inA_X5 hown hK hP 0 rfl rfl 20 (by decide) (hta _ aw_531) (fun _ h9 => h9) rfl dX5_byEntry_2 ?_
  refine lv_iconst (v := 1) hx hb dX5_byEntry_5 (by decide) ?_
  refine lv_iadd hx hb dX5_byEntry_6 ?_
  refine va_put (D := (dC, dI)) (ci := 5) (v := .int (f5 + (1 : Int32))) (ty := .int) (C := RX5) (T := TX5) (N := 30) hx hb hta inA_X5 tyX5 tyX5_ok nmX5 hown hK hP hD hS 0 rfl rfl 20 (by decide) (hta _ aw_531) (fun _ h9 => h9) rfl (by decide +kernel) rfl rfl (Nat.le_of_ble_eq_true rfl) dX5_byEntry_7 (fun H locs hP hD hS => ?_)
  have hP : va_P (dC, dI) vwCl (MWl ga gk th L N mm f1 mr mh f8 en us eC eL eB eF eR eU eX f2 f3 f4 (f5 + (1 : Int32)) f6 f7 f14 ff fa mn lg cm wa) H := hP
  have hD : va_D A (MWl ga gk th L N mm f1 mr mh f8 en us eC eL eB eF eR eU eX f2 f3 f4 (f5 + (1 : Int32)) f6 f7 f14 ff fa mn lg cm wa) := hD
  refine lv_aload_n hx hb dX5_byEntry_10 rfl (lv_at hl 0 rfl) ?_
  refine lv_iload_n hx hb dX5_byEntry_11 rfl (lv_at hl 1 rfl) ?_
  have hFc : ∀ q, va_A (MWl ga gk th L N mm f1 mr mh f8 en us eC eL eB eF eR eU eX f2 f3 f4 (f5 + (1 : Int32)) f6 f7 f14 ff fa mn lg cm wa) H.size q → A q := cx_free hD hS hA
  refine va_callv (va_runV (As := [.int (nI p0)]) (rest := []) ⟨hx, hb, hml, hown, hta⟩ (c_X5_use l dC dI ga gk th L N mm f1 mr mh f8 en us eC eL eB eF eR eU eX f2 f3 f4 (f5 + (1 : Int32)) f6 f7 f14 ff fa mn lg cm wa H.size p0 (by omega)) (cwV 1 hta (gV aw_662 aw_664 aw_25 aw_43 aw_665) rfl rfl rfl (by decide +kernel) ⟨Nat.le_of_ble_eq_true rfl, Nat.le_of_ble_eq_true rfl⟩) (cx_preVQ hK hP hN (va_recv hK hP (ci := 5) (q0 := 0) rfl rfl) hD) rfl rfl hl.1 rfl (lv_room (Nat.le_of_ble_eq_true rfl)) dX5_byEntry_12 ⟨Nat.le_of_ble_eq_true rfl, Nat.le_of_ble_eq_true rfl⟩) hS (fun q _ h => hFc q h) hFc (fun u t9 H1 locs ht hvm hw_1 hB hz1 hk1 hS => ?_)
  obtain ⟨us_1, eU_1⟩ := u
  obtain ⟨hP, hK1, hD1⟩ := hB
  rw [ht] at hP
  have hD := hD1.weaken (fun _ _ _ h => hFc _ h)
  clear hFc hz1 hk1 hK1 hD1 ht hvm
  generalize H1 = H at hP hS ⊢
  have hP : va_P (dC, dI) vwCl (MWl ga gk th L N mm f1 mr mh f8 en us_1 eC eL eB eF eR eU_1 eX f2 f3 f4 (f5 + (1 : Int32)) f6 f7 f14 ff fa mn lg cm wa) H := hP
  have hD : va_D A (MWl ga gk th L N mm f1 mr mh f8 en us_1 eC eL eB eF eR eU_1 eX f2 f3 f4 (f5 + (1 : Int32)) f6 f7 f14 ff fa mn lg cm wa) := hD
  refine lv_aload_n hx hb dX5_byEntry_15 rfl (lv_at hl 0 rfl) ?_
  refine va_get (D := (dC, dI)) (ci := 5) (v := .ref (ga 8)) (C := RX5) (T := TX5) (N := 30) hx hb hta inA_X5 hown hK hP 0 rfl rfl 14 (by decide) (hta _ aw_525) (fun _ h9 => h9) rfl dX5_byEntry_16 ?_
  refine lv_iload_n hx hb dX5_byEntry_19 rfl (lv_at hl 1 rfl) ?_
  refine va_iald hx hb hK hP 8 7 rfl rfl (vp_in_nI (by omega) (by omega)) dX5_byEntry_20 ?_
  rw [nI_clamp (show p0 < 2 ^ 31 by omega)]
  refine lv_iload_n hx hb dX5_byEntry_21 rfl (lv_at hl 3 rfl) ?_
  refine cx_callSi (va_runS (As := [.int (eR p0), .int p2]) (rest := []) ⟨hx, hb, hml, hown, hta⟩ (c_X5_does l (eR p0) p2) (va_cwS 2 hta (gS aw_655 aw_656 aw_43 aw_657) rfl rfl rfl (by decide +kernel) ⟨Nat.le_of_ble_eq_true rfl, Nat.le_of_ble_eq_true rfl⟩) cx_pre0 rfl rfl hl.1 rfl (lv_room (Nat.le_of_ble_eq_true rfl)) dX5_byEntry_22 ⟨Nat.le_of_ble_eq_true rfl, Nat.le_of_ble_eq_true rfl⟩) (fun r hw_2 => ?_)
  subst hw_2
  refine lv_if_ne (tgt := 38) hx hb dX5_byEntry_25 (by decide) (fun c_25_2 => ?_) (fun c_25_2 => ?_)
  · refine lv_aload_n hx hb dX5_byEntry_38 rfl (lv_at hl 0 rfl) ?_
    refine lv_aload_n hx hb dX5_byEntry_39 rfl (lv_at hl 0 rfl) ?_
    refine va_get (D := (dC, dI)) (ci := 5) (v := .ref (ga 7)) (C := RX5) (T := TX5) (N := 30) hx hb hta inA_X5 hown hK hP 0 rfl rfl 13 (by decide) (hta _ aw_524) (fun _ h9 => h9) rfl dX5_byEntry_40 ?_
    refine lv_iload_n hx hb dX5_byEntry_43 rfl (lv_at hl 1 rfl) ?_
    refine va_iald hx hb hK hP 7 6 rfl rfl (vp_in_nI (by omega) (by omega)) dX5_byEntry_44 ?_
    rw [nI_clamp (show p0 < 2 ^ 31 by omega)]
    refine lv_aload_n hx hb dX5_byEntry_45 rfl (lv_at hl 0 rfl) ?_
    refine va_get (D := (dC, dI)) (ci := 5) (v := .ref (ga 5)) (C := RX5) (T := TX5) (N := 30) hx hb hta inA_X5 hown hK hP 0 rfl rfl 11 (by decide) (hta _ aw_522) (fun _ h9 => h9) rfl dX5_byEntry_46 ?_
    refine lv_iload_n hx hb dX5_byEntry_49 rfl (lv_at hl 1 rfl) ?_
    refine va_iald hx hb hK hP 5 4 rfl rfl (vp_in_nI (by omega) (by omega)) dX5_byEntry_50 ?_
    rw [nI_clamp (show p0 < 2 ^ 31 by omega)]
    refine lv_iload_n hx hb dX5_byEntry_51 rfl (lv_at hl 2 rfl) ?_
    have hFc : ∀ q, va_A (MWl ga gk th L N mm f1 mr mh f8 en us_1 eC eL eB eF eR eU_1 eX f2 f3 f4 (f5 + (1 : Int32)) f6 f7 f14 ff fa mn lg cm wa) H.size q → A q := cx_free hD hS hA
    refine va_calli (va_runV (As := [.int (eF p0), .int (eL p0), .int p1]) (rest := []) ⟨hx, hb, hml, hown, hta⟩ (c_X5_ends l dC dI ga gk th L N mm f1 mr mh f8 en us_1 eC eL eB eF eR eU_1 eX f2 f3 f4 (f5 + (1 : Int32)) f6 f7 f14 ff fa mn lg cm wa H.size (eF p0) (eL p0) p1) (cwV 3 hta (gV aw_670 aw_672 aw_27 aw_43 aw_673) rfl rfl rfl (by decide +kernel) ⟨Nat.le_of_ble_eq_true rfl, Nat.le_of_ble_eq_true rfl⟩) (cx_preVQ hK hP hN (va_recv hK hP (ci := 5) (q0 := 0) rfl rfl) hD) rfl rfl hl.1 rfl (lv_room (Nat.le_of_ble_eq_true rfl)) dX5_byEntry_52 ⟨Nat.le_of_ble_eq_true rfl, Nat.le_of_ble_eq_true rfl⟩) hS (fun q _ h => hFc q h) hFc (fun r_4 u t9 H1 locs ht hvm hw_4 hB hz1 hk1 hS => ?_)
    obtain ⟨ff_4, fa_4, cm_4⟩ := u
    obtain ⟨hP, hK1, hD1⟩ := hB
    rw [ht] at hP
    have hD := hD1.weaken (fun _ _ _ h => hFc _ h)
    clear hFc hz1 hk1 hK1 hD1 ht hvm
    generalize H1 = H at hP hS ⊢
    have hP : va_P (dC, dI) vwCl (MWl ga gk th L N mm f1 mr mh f8 en us_1 eC eL eB eF eR eU_1 eX f2 f3 f4 (f5 + (1 : Int32)) f6 f7 f14 ff_4 fa_4 mn lg cm_4 wa) H := hP
    have hD : va_D A (MWl ga gk th L N mm f1 mr mh f8 en us_1 eC eL eB eF eR eU_1 eX f2 f3 f4 (f5 + (1 : Int32)) f6 f7 f14 ff_4 fa_4 mn lg cm_4 wa) := hD
    have hze : narrow .boolean (.int r_4) = .int r_4 := ends_z hw_4
    exact W.zret (ty := .boolean) (v := r_4) hx hb hr hze (fun t ht hW => ⟨⟨r_4, (us_1, eU_1, f5 + (1 : Int32), ff_4, fa_4, cm_4), rfl, (by unfold mX5_byEntry; rewrite [← hw_1]; (try dsimp only); rewrite [if_neg c_25_2]; rewrite [← hw_4]; (try dsimp only); (first | done | rfl)), by rw [ht]; exact hP, va_K.moved hW.alike hK, hD⟩, hS.F ht⟩) hS.2.2 dX5_byEntry_55
  · refine lv_aload_n hx hb dX5_byEntry_28 rfl (lv_at hl 0 rfl) ?_
    refine lv_iconst (v := 3) hx hb dX5_byEntry_29 (by decide) ?_
    refine lv_aload_n hx hb dX5_byEntry_30 rfl (lv_at hl 0 rfl) ?_
    refine va_get (D := (dC, dI)) (ci := 5) (v := .int (nI L)) (C := RX5) (T := TX5) (N := 30) hx hb hta inA_X5 hown hK hP 0 rfl rfl 1 (by decide) (hta _ aw_512) (fun _ h9 => h9) rfl dX5_byEntry_31 ?_
    have hFc : ∀ q, va_A (MWl ga gk th L N mm f1 mr mh f8 en us_1 eC eL eB eF eR eU_1 eX f2 f3 f4 (f5 + (1 : Int32)) f6 f7 f14 ff fa mn lg cm wa) H.size q → A q := cx_free hD hS hA
    refine va_calli (va_runV (As := [.int (3 : Int32), .int (nI L)]) (rest := []) ⟨hx, hb, hml, hown, hta⟩ (c_X5_fails l dC dI ga gk th L N mm f1 mr mh f8 en us_1 eC eL eB eF eR eU_1 eX f2 f3 f4 (f5 + (1 : Int32)) f6 f7 f14 ff fa mn lg cm wa H.size (3 : Int32) (nI L)) (cwV 2 hta (gV aw_666 aw_668 aw_26 aw_43 aw_669) rfl rfl rfl (by decide +kernel) ⟨Nat.le_of_ble_eq_true rfl, Nat.le_of_ble_eq_true rfl⟩) (cx_preVQ hK hP hN (va_recv hK hP (ci := 5) (q0 := 0) rfl rfl) hD) rfl rfl hl.1 rfl (lv_room (Nat.le_of_ble_eq_true rfl)) dX5_byEntry_34 ⟨Nat.le_of_ble_eq_true rfl, Nat.le_of_ble_eq_true rfl⟩) hS (fun q _ h => hFc q h) hFc (fun r_5 u t9 H1 locs ht hvm hw_5 hB hz1 hk1 hS => ?_)
    obtain ⟨ff_5, fa_5⟩ := u
    obtain ⟨hP, hK1, hD1⟩ := hB
    rw [ht] at hP
    have hD := hD1.weaken (fun _ _ _ h => hFc _ h)
    clear hFc hz1 hk1 hK1 hD1 ht hvm
    generalize H1 = H at hP hS ⊢
    have hP : va_P (dC, dI) vwCl (MWl ga gk th L N mm f1 mr mh f8 en us_1 eC eL eB eF eR eU_1 eX f2 f3 f4 (f5 + (1 : Int32)) f6 f7 f14 ff_5 fa_5 mn lg cm wa) H := hP
    have hD : va_D A (MWl ga gk th L N mm f1 mr mh f8 en us_1 eC eL eB eF eR eU_1 eX f2 f3 f4 (f5 + (1 : Int32)) f6 f7 f14 ff_5 fa_5 mn lg cm wa) := hD
    have hzf : narrow .boolean (.int r_5) = .int r_5 := by have := hw_5; unfold mX5_fails at this; cases this; rfl
    exact W.zret (ty := .boolean) (v := r_5) hx hb hr hzf (fun t ht hW => ⟨⟨r_5, (us_1, eU_1, f5 + (1 : Int32), ff_5, fa_5, cm), rfl, (by unfold mX5_byEntry; rewrite [← hw_1]; (try dsimp only); rewrite [if_pos c_25_2]; rewrite [← hw_5]; (try dsimp only); (first | done | rfl)), by rw [ht]; exact hP, va_K.moved hW.alike hK, hD⟩, hS.F ht⟩) hS.2.2 dX5_byEntry_37
