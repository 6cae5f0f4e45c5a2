/-- Path.mark: the words passed are SEEN, from the i-th on, j left -/
def mMarkL (pa : Nat → Int32) : Nat → Nat → (Nat → Int64) → (Nat → Int64)
  | 0, _, w => w
  | j + 1, i, w => mMarkL pa j (i + 1) (vp_updL w (pa i).toNatClampNeg ((w (pa i).toNatClampNeg) ||| (64 : Int64)))
def mMark (rd : Nat) (lf : Int64) (pa : Nat → Int32) (p0 : Int32) (w : Nat → Int64) : (Nat → Int64) × Int64 :=
  if rd = 0 then (w, lf)
  else if p0 = 0 then (w, w (pa (rd - 1)).toNatClampNeg)
  else (vp_updL w (pa (rd - 1)).toNatClampNeg ((w (pa (rd - 1)).toNatClampNeg) ||| (128 : Int64)), vp_updL w (pa (rd - 1)).toNatClampNeg ((w (pa (rd - 1)).toNatClampNeg) ||| (128 : Int64)) (pa (rd - 1)).toNatClampNeg)

set_option maxHeartbeats 4000000 in
set_option maxRecDepth 100000 in
theorem c_X3_mark (l : Launch) (dC : Nat → ClassId) (dI : Nat → Nat → Nat) (a : Nat → Nat) (k : Nat → ClassId) (LP : List Nat) (N : Nat) (L : Nat) (f1 f2 f3 f4 f5 f6 f7 f8 : Int32) (rd : Nat) (f10 f11 f12 : Int32) (n : Nat) (f14 : Int32) (lf : Int64) (wd : Nat → Int64) (ho ro pa : Nat → Int32) (rs : Nat → Option Nat) (E : Nat → Nat → Int32)  (sz : Nat) (p0 : Int32) (hrd : rd ≤ 4) (hpa : ∀ i, i < rd → vp_in (pa i) 4096) : Met l yX3_mark (wX3_mark :: AW) ({ frames := 0, cells := 0, slots := 0, locals := 0 }) (va_Pc [.ref (a 4), .int p0] (CPrQ dC dI (CWl a k LP N L f1 f2 f3 f4 f5 f6 f7 f8 rd f10 f11 f12 n f14 lf wd ho ro pa rs E) [(k 0, .long), (k 1, .int), (k 2, .int), (k 3, .object "PageRows$Entry"), (k 4, .int)] sz)) (va_Qv (fun (u : (Nat → Int64) × Int64) => u = mMark rd lf pa p0 (mMarkL pa rd 0 wd)) (fun (u : (Nat → Int64) × Int64) (t : State) => match u with | (wd', lf') => va_P (dC, dI) vwCl (CWl a k LP N L f1 f2 f3 f4 f5 f6 f7 f8 rd f10 f11 f12 n f14 lf' wd' ho ro pa rs E) t.heap ∧ va_K (dC, dI) vwCl [(k 0, .long), (k 1, .int), (k 2, .int), (k 3, .object "PageRows$Entry"), (k 4, .int)] t ∧ va_D (va_A (CWl a k LP N L f1 f2 f3 f4 f5 f6 f7 f8 rd f10 f11 f12 n f14 lf wd ho ro pa rs E) sz) (CWl a k LP N L f1 f2 f3 f4 f5 f6 f7 f8 rd f10 f11 f12 n f14 lf' wd' ho ro pa rs E)) (va_A (CWl a k LP N L f1 f2 f3 f4 f5 f6 f7 f8 rd f10 f11 f12 n f14 lf wd ho ro pa rs E) sz)) 0 0 (va_A (CWl a k LP N L f1 f2 f3 f4 f5 f6 f7 f8 rd f10 f11 f12 n f14 lf wd ho ro pa rs E) sz) := by
  refine cx_of (cc := cX3_mark) (maxL := 3) (ret := none) (by decide) rfl (Nat.le_of_ble_eq_true rfl) ?_
  intro p e s m below meth c ls hx hb hr hts hown hlocks hml hnm hl hB
  have hta : ∀ w ∈ AW, w.before [.ref (a 4), .int p0].toArray s = true := fun w h => hts w (List.mem_cons_of_mem _ h)
  have hl : lv_has ls 3 [(0, .ref (a 4)), (1, .int p0)] := hl
  have hown : s.vm.findClass RX3 = some m.cls := hown
  obtain ⟨rfl, ⟨hP, hK, hN⟩, hD0⟩ := hB
  have hD := hD0.self (sz := s.heap.size)
  generalize hAe : va_A (CWl a k LP N L f1 f2 f3 f4 f5 f6 f7 f8 rd f10 f11 f12 n f14 lf wd ho ro pa rs E) s.heap.size = A at hD ⊢
  have hA : ∀ q : Nat, s.heap.size ≤ q → A q := fun q h => by rw [← hAe]; exact Or.inr h
  have hS : va_S A s.heap s.heap [] := va_S.rf
  have loop : ∀ (j i : Nat) (w : Nat → Int64), i + j = rd → mMarkL pa rd 0 wd = mMarkL pa j i w → ∀ (H : Heap) (locs : List Loc), va_P (dC, dI) vwCl (CWl a k LP N L f1 f2 f3 f4 f5 f6 f7 f8 rd f10 f11 f12 n f14 lf w ho ro pa rs E) H → va_D A (CWl a k LP N L f1 f2 f3 f4 f5 f6 f7 f8 rd f10 f11 f12 n f14 lf w ho ro pa rs E) → va_S A s.heap H locs → ∀ (ls : Array Slot), lv_has ls 3 [(2, .int (nI i)), (0, .ref (a 4)), (1, .int p0)] → W p l e ({ frames := 0, cells := 0, slots := 0, locals := 0 }) s m [.ref (a 4), .int p0].toArray below meth c H locs 0 0 (MQ below (va_Qv (fun (u : (Nat → Int64) × Int64) => u = mMark rd lf pa p0 (mMarkL pa rd 0 wd)) (fun (u : (Nat → Int64) × Int64) (t : State) => match u with | (wd', lf') => va_P (dC, dI) vwCl (CWl a k LP N L f1 f2 f3 f4 f5 f6 f7 f8 rd f10 f11 f12 n f14 lf' wd' ho ro pa rs E) t.heap ∧ va_K (dC, dI) vwCl [(k 0, .long), (k 1, .int), (k 2, .int), (k 3, .object "PageRows$Entry"), (k 4, .int)] t ∧ va_D A (CWl a k LP N L f1 f2 f3 f4 f5 f6 f7 f8 rd f10 f11 f12 n f14 lf' wd' ho ro pa rs E)) A) [.ref (a 4), .int p0].toArray s 0 0 A) (F0 m 2 ls []) := by
    intro j
    induction j with
    | zero =>
      intro i w hi hm H locs hP hD hS ls hl
      refine lv_iload_n hx hb dX3_mark_2 rfl (lv_at hl 0 rfl) ?_
      refine lv_aload_n hx hb dX3_mark_3 rfl (lv_at hl 1 rfl) ?_
      refine va_get (D := (dC, dI)) (ci := 3) (v := .int (nI rd)) (C := RX3) (T := TX3) (N := 8) hx hb hta inA_X3 hown hK hP 4 rfl rfl 3 (by decide) (hta _ aw_88) (fun _ h9 => h9) rfl dX3_mark_4 ?_
      refine lv_icmp_ge (tgt := 36) hx hb dX3_mark_7 (by decide) (fun c_7_0 => ?_) (fun c_7_0 => ?_)
      · refine lv_aload_n hx hb dX3_mark_36 rfl (lv_at hl 1 rfl) ?_
        refine va_get (D := (dC, dI)) (ci := 3) (v := .int (nI rd)) (C := RX3) (T := TX3) (N := 8) hx hb hta inA_X3 hown hK hP 4 rfl rfl 3 (by decide) (hta _ aw_88) (fun _ h9 => h9) rfl dX3_mark_37 ?_
        refine lv_if_le (tgt := 87) hx hb dX3_mark_40 (by decide) (fun c_40_1 => ?_) (fun c_40_1 => ?_)
        · exact W.vret hx hb hr (fun t ht hW => ⟨⟨(w, lf), rfl, (by rw [hm]; unfold mMark; rw [if_pos (show rd = 0 from by rcases Nat.eq_zero_or_pos rd with q | q; exact q; exact absurd c_40_1 (nI_nle q (by omega)))]; rfl), by rw [ht]; exact hP, va_K.moved hW.alike hK, hD⟩, hS.F ht⟩) hS.2.2 dX3_mark_87
        · have h1rd : 1 ≤ rd := by
            rcases Nat.eq_zero_or_pos rd with q | q
            · exact absurd (by rw [q]; decide) c_40_1
            · exact q
          refine lv_aload_n hx hb dX3_mark_43 rfl (lv_at hl 1 rfl) ?_
          refine va_get (D := (dC, dI)) (ci := 3) (v := .ref (a 5)) (C := RX3) (T := TX3) (N := 8) hx hb hta inA_X3 hown hK hP 4 rfl rfl 2 (by decide) (hta _ aw_87) (fun _ h9 => h9) rfl dX3_mark_44 ?_
          refine lv_aload_n hx hb dX3_mark_47 rfl (lv_at hl 1 rfl) ?_
          refine va_get (D := (dC, dI)) (ci := 3) (v := .int (nI rd)) (C := RX3) (T := TX3) (N := 8) hx hb hta inA_X3 hown hK hP 4 rfl rfl 3 (by decide) (hta _ aw_88) (fun _ h9 => h9) rfl dX3_mark_48 ?_
          refine lv_iconst (v := 1) hx hb dX3_mark_51 (by decide) ?_
          refine lv_isub hx hb dX3_mark_52 ?_
          rw [show (nI rd) - (1 : Int32) = nI (rd - 1) from pk_sub (show 1 ≤ rd by omega)]
          refine va_iald hx hb hK hP 5 2 rfl rfl (vp_in_nI (by omega) (by omega)) dX3_mark_53 ?_
          rw [nI_clamp (show (rd - 1) < 2 ^ 31 by omega)]
          refine lv_istore_n (lv' := [(2, .int (pa (rd - 1))), (0, .ref (a 4)), (1, .int p0)]) hx hb dX3_mark_54 rfl hl (by decide) rfl (fun ls hl => ?_)
          refine lv_iload_n hx hb dX3_mark_55 rfl (lv_at hl 2 rfl) ?_
          refine lv_if_eq (tgt := 74) hx hb dX3_mark_56 (by decide) (fun c_56_2 => ?_) (fun c_56_2 => ?_)
          · refine lv_aload_n hx hb dX3_mark_74 rfl (lv_at hl 1 rfl) ?_
            refine lv_aload_n hx hb dX3_mark_75 rfl (lv_at hl 1 rfl) ?_
            refine va_get (D := (dC, dI)) (ci := 3) (v := .ref (a 1)) (C := RX3) (T := TX3) (N := 8) hx hb hta inA_X3 hown hK hP 4 rfl rfl 0 (by decide) (hta _ aw_85) (fun _ h9 => h9) rfl dX3_mark_76 ?_
            refine va_getN (D := (dC, dI)) (ci := 2) (v := .ref (a 2)) (C := RX2) (T := TX2) (N := 3) hx hb hta inA_X2 hown hK hP 1 rfl rfl 0 (by decide) (hN.nf 1 rfl) (fun _ h9 => h9) rfl dX3_mark_79 ?_
            refine lv_iload_n hx hb dX3_mark_82 rfl (lv_at hl 0 rfl) ?_
            refine va_lald hx hb hK hP 2 0 rfl rfl (hpa (rd - 1) (by omega)) dX3_mark_83 ?_
            refine va_put (D := (dC, dI)) (ci := 3) (v := .long (w (pa (rd - 1)).toNatClampNeg)) (ty := .long) (C := RX3) (T := TX3) (N := 8) hx hb hta inA_X3 tyX3 tyX3_ok nmX3 hown hK hP hD hS 4 rfl rfl 4 (by decide) (hta _ aw_90) (fun _ h9 => h9) rfl (by decide +kernel) rfl rfl (Nat.le_of_ble_eq_true rfl) dX3_mark_84 (fun H locs hP hD hS => ?_)
            have hP : va_P (dC, dI) vwCl (CWl a k LP N L f1 f2 f3 f4 f5 f6 f7 f8 rd f10 f11 f12 n f14 (w (pa (rd - 1)).toNatClampNeg) w ho ro pa rs E) H := hP
            have hD : va_D A (CWl a k LP N L f1 f2 f3 f4 f5 f6 f7 f8 rd f10 f11 f12 n f14 (w (pa (rd - 1)).toNatClampNeg) w ho ro pa rs E) := hD
            exact W.vret hx hb hr (fun t ht hW => ⟨⟨(w, w (pa (rd - 1)).toNatClampNeg), rfl, (by rw [hm]; unfold mMark; rw [if_neg (show ¬ rd = 0 by omega), if_pos c_56_2]; rfl), by rw [ht]; exact hP, va_K.moved hW.alike hK, hD⟩, hS.F ht⟩) hS.2.2 dX3_mark_87
          · refine lv_aload_n hx hb dX3_mark_59 rfl (lv_at hl 1 rfl) ?_
            refine va_get (D := (dC, dI)) (ci := 3) (v := .ref (a 1)) (C := RX3) (T := TX3) (N := 8) hx hb hta inA_X3 hown hK hP 4 rfl rfl 0 (by decide) (hta _ aw_85) (fun _ h9 => h9) rfl dX3_mark_60 ?_
            refine va_getN (D := (dC, dI)) (ci := 2) (v := .ref (a 2)) (C := RX2) (T := TX2) (N := 3) hx hb hta inA_X2 hown hK hP 1 rfl rfl 0 (by decide) (hN.nf 1 rfl) (fun _ h9 => h9) rfl dX3_mark_63 ?_
            refine lv_iload_n hx hb dX3_mark_66 rfl (lv_at hl 0 rfl) ?_
            refine lv_dup2_11 hx hb dX3_mark_67 rfl rfl ?_
            refine va_lald hx hb hK hP 2 0 rfl rfl (hpa (rd - 1) (by omega)) dX3_mark_68 ?_
            refine lv_ldc2 (v := 128) hx hb hown (hta _ aw_431) dX3_mark_69 ?_
            refine lv_lor hx hb dX3_mark_72 ?_
            refine va_last hx hb hK hP hD hS 2 0 rfl rfl (hpa (rd - 1) (by omega)) dX3_mark_73 (fun H locs hP hD hS => ?_)
            have hP : va_P (dC, dI) vwCl (CWl a k LP N L f1 f2 f3 f4 f5 f6 f7 f8 rd f10 f11 f12 n f14 lf (vp_updL w (pa (rd - 1)).toNatClampNeg ((w (pa (rd - 1)).toNatClampNeg) ||| (128 : Int64))) ho ro pa rs E) H := hP
            have hD : va_D A (CWl a k LP N L f1 f2 f3 f4 f5 f6 f7 f8 rd f10 f11 f12 n f14 lf (vp_updL w (pa (rd - 1)).toNatClampNeg ((w (pa (rd - 1)).toNatClampNeg) ||| (128 : Int64))) ho ro pa rs E) := hD
            refine lv_aload_n hx hb dX3_mark_74 rfl (lv_at hl 1 rfl) ?_
            refine lv_aload_n hx hb dX3_mark_75 rfl (lv_at hl 1 rfl) ?_
            refine va_get (D := (dC, dI)) (ci := 3) (v := .ref (a 1)) (C := RX3) (T := TX3) (N := 8) hx hb hta inA_X3 hown hK hP 4 rfl rfl 0 (by decide) (hta _ aw_85) (fun _ h9 => h9) rfl dX3_mark_76 ?_
            refine va_getN (D := (dC, dI)) (ci := 2) (v := .ref (a 2)) (C := RX2) (T := TX2) (N := 3) hx hb hta inA_X2 hown hK hP 1 rfl rfl 0 (by decide) (hN.nf 1 rfl) (fun _ h9 => h9) rfl dX3_mark_79 ?_
            refine lv_iload_n hx hb dX3_mark_82 rfl (lv_at hl 0 rfl) ?_
            refine va_lald hx hb hK hP 2 0 rfl rfl (hpa (rd - 1) (by omega)) dX3_mark_83 ?_
            refine va_put (D := (dC, dI)) (ci := 3) (v := .long ((vp_updL w (pa (rd - 1)).toNatClampNeg ((w (pa (rd - 1)).toNatClampNeg) ||| (128 : Int64))) (pa (rd - 1)).toNatClampNeg)) (ty := .long) (C := RX3) (T := TX3) (N := 8) hx hb hta inA_X3 tyX3 tyX3_ok nmX3 hown hK hP hD hS 4 rfl rfl 4 (by decide) (hta _ aw_90) (fun _ h9 => h9) rfl (by decide +kernel) rfl rfl (Nat.le_of_ble_eq_true rfl) dX3_mark_84 (fun H locs hP hD hS => ?_)
            have hP : va_P (dC, dI) vwCl (CWl a k LP N L f1 f2 f3 f4 f5 f6 f7 f8 rd f10 f11 f12 n f14 ((vp_updL w (pa (rd - 1)).toNatClampNeg ((w (pa (rd - 1)).toNatClampNeg) ||| (128 : Int64))) (pa (rd - 1)).toNatClampNeg) (vp_updL w (pa (rd - 1)).toNatClampNeg ((w (pa (rd - 1)).toNatClampNeg) ||| (128 : Int64))) ho ro pa rs E) H := hP
            have hD : va_D A (CWl a k LP N L f1 f2 f3 f4 f5 f6 f7 f8 rd f10 f11 f12 n f14 ((vp_updL w (pa (rd - 1)).toNatClampNeg ((w (pa (rd - 1)).toNatClampNeg) ||| (128 : Int64))) (pa (rd - 1)).toNatClampNeg) (vp_updL w (pa (rd - 1)).toNatClampNeg ((w (pa (rd - 1)).toNatClampNeg) ||| (128 : Int64))) ho ro pa rs E) := hD
            exact W.vret hx hb hr (fun t ht hW => ⟨⟨(vp_updL w (pa (rd - 1)).toNatClampNeg ((w (pa (rd - 1)).toNatClampNeg) ||| (128 : Int64)), (vp_updL w (pa (rd - 1)).toNatClampNeg ((w (pa (rd - 1)).toNatClampNeg) ||| (128 : Int64))) (pa (rd - 1)).toNatClampNeg), rfl, (by rw [hm]; unfold mMark; rw [if_neg (show ¬ rd = 0 by omega), if_neg c_56_2]; rfl), by rw [ht]; exact hP, va_K.moved hW.alike hK, hD⟩, hS.F ht⟩) hS.2.2 dX3_mark_87
      · exact absurd (nI_le (by omega) (by omega)) c_7_0
    | succ j ih =>
      intro i w hi hm H locs hP hD hS ls hl
      refine lv_iload_n hx hb dX3_mark_2 rfl (lv_at hl 0 rfl) ?_
      refine lv_aload_n hx hb dX3_mark_3 rfl (lv_at hl 1 rfl) ?_
      refine va_get (D := (dC, dI)) (ci := 3) (v := .int (nI rd)) (C := RX3) (T := TX3) (N := 8) hx hb hta inA_X3 hown hK hP 4 rfl rfl 3 (by decide) (hta _ aw_88) (fun _ h9 => h9) rfl dX3_mark_4 ?_
      refine lv_icmp_ge (tgt := 36) hx hb dX3_mark_7 (by decide) (fun c_7_3 => ?_) (fun c_7_3 => ?_)
      · exact absurd c_7_3 (nI_ge (by omega) (by omega))
      · refine lv_aload_n hx hb dX3_mark_10 rfl (lv_at hl 1 rfl) ?_
        refine va_get (D := (dC, dI)) (ci := 3) (v := .ref (a 1)) (C := RX3) (T := TX3) (N := 8) hx hb hta inA_X3 hown hK hP 4 rfl rfl 0 (by decide) (hta _ aw_85) (fun _ h9 => h9) rfl dX3_mark_11 ?_
        refine va_getN (D := (dC, dI)) (ci := 2) (v := .ref (a 2)) (C := RX2) (T := TX2) (N := 3) hx hb hta inA_X2 hown hK hP 1 rfl rfl 0 (by decide) (hN.nf 1 rfl) (fun _ h9 => h9) rfl dX3_mark_14 ?_
        refine lv_aload_n hx hb dX3_mark_17 rfl (lv_at hl 1 rfl) ?_
        refine va_get (D := (dC, dI)) (ci := 3) (v := .ref (a 5)) (C := RX3) (T := TX3) (N := 8) hx hb hta inA_X3 hown hK hP 4 rfl rfl 2 (by decide) (hta _ aw_87) (fun _ h9 => h9) rfl dX3_mark_18 ?_
        refine lv_iload_n hx hb dX3_mark_21 rfl (lv_at hl 0 rfl) ?_
        refine va_iald hx hb hK hP 5 2 rfl rfl (vp_in_nI (by omega) (by omega)) dX3_mark_22 ?_
        rw [nI_clamp (show i < 2 ^ 31 by omega)]
        refine lv_dup2_11 hx hb dX3_mark_23 rfl rfl ?_
        refine va_lald hx hb hK hP 2 0 rfl rfl (hpa i (by omega)) dX3_mark_24 ?_
        refine lv_ldc2 (v := 64) hx hb hown (hta _ aw_430) dX3_mark_25 ?_
        refine lv_lor hx hb dX3_mark_28 ?_
        refine va_last hx hb hK hP hD hS 2 0 rfl rfl (hpa i (by omega)) dX3_mark_29 (fun H locs hP hD hS => ?_)
        have hP : va_P (dC, dI) vwCl (CWl a k LP N L f1 f2 f3 f4 f5 f6 f7 f8 rd f10 f11 f12 n f14 lf (vp_updL w (pa i).toNatClampNeg ((w (pa i).toNatClampNeg) ||| (64 : Int64))) ho ro pa rs E) H := hP
        have hD : va_D A (CWl a k LP N L f1 f2 f3 f4 f5 f6 f7 f8 rd f10 f11 f12 n f14 lf (vp_updL w (pa i).toNatClampNeg ((w (pa i).toNatClampNeg) ||| (64 : Int64))) ho ro pa rs E) := hD
        refine lv_iinc (v := nI (i + 1)) (lv' := [(2, .int (nI (i + 1))), (0, .ref (a 4)), (1, .int p0)]) hx hb dX3_mark_30 hl (k := 0) rfl (cx_inc i 1 rfl) (by decide) rfl (fun ls hl => ?_)
        refine lv_goto (tgt := 2) hx hb dX3_mark_33 (by decide) ?_
        exact ih (i + 1) _ (by omega) (by rw [hm]; rfl) H locs hP hD hS ls (lv_sub hl [0, 1, 2] rfl)
  refine lv_iconst (v := 0) hx hb dX3_mark_0 (by decide) ?_
  refine lv_istore_n (lv' := [(2, .int (0 : Int32)), (0, .ref (a 4)), (1, .int p0)]) hx hb dX3_mark_1 rfl hl (by decide) rfl (fun ls hl => ?_)
  exact loop rd 0 wd (by omega) rfl s.heap [] hP hD hS ls (lv_sub hl [0, 1, 2] rfl)
