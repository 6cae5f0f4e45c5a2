/-- rows i+1 .. k hold what stood one before -/
def shf (rs : Nat → Option Nat) (k i : Nat) : Nat → Option Nat := fun j => if i < j ∧ j ≤ k then rs (j - 1) else rs j
def useRs (rs : Nat → Option Nat) (k : Nat) : Nat → Option Nat := fun j => if j = 0 then rs k else if j ≤ k then rs (j - 1) else rs j
theorem shf_self (rs : Nat → Option Nat) (k : Nat) : shf rs k k = rs := by
  funext j
  unfold shf
  rw [if_neg (by omega)]
theorem shf_step (rs : Nat → Option Nat) {k i : Nat} (h : i + 1 ≤ k) : va_up (shf rs k (i + 1)) (i + 1) (rs i) = shf rs k i := by
  funext j
  by_cases hj : j = i + 1
  · subst hj
    rw [va_up_self]
    unfold shf
    rw [if_pos (by omega)]
    rfl
  · rw [va_up_ne _ _ hj]
    unfold shf
    by_cases h1 : i < j ∧ j ≤ k
    · rw [if_pos h1, if_pos (by omega)]
    · rw [if_neg h1, if_neg (by omega)]
theorem shf_end (rs : Nat → Option Nat) (k : Nat) : va_up (shf rs k 0) 0 (rs k) = useRs rs k := by
  funext j
  by_cases hj : j = 0
  · subst hj
    rw [va_up_self]
    rfl
  · rw [va_up_ne _ _ hj]
    unfold shf useRs
    rw [if_neg hj]
    by_cases h1 : j ≤ k
    · rw [if_pos (by omega), if_pos h1]
    · rw [if_neg (by omega), if_neg h1]
theorem shf_low (rs : Nat → Option Nat) {k i j : Nat} (h : j ≤ i) : shf rs k i j = rs j := by
  unfold shf
  rw [if_neg (by omega)]
theorem rowA_some {rs : Nat → Option Nat} {i y : Nat} (h : rs i = some y) : rowA rs i = y := by
  unfold rowA
  rw [h]
  rfl

set_option maxHeartbeats 4000000 in
set_option maxRecDepth 100000 in
theorem c_X0_use (l : Launch) (dC : Nat → ClassId) (dI : Nat → Nat → Nat) (a : Nat → Nat) (k : Nat → ClassId) (LP : List Nat) (N : Nat) (L : Nat) (f1 f2 f3 f4 f5 f6 f7 f8 : Int32) (rd : Nat) (f10 f11 f12 : Int32) (n : Nat) (f14 : Int32) (lf : Int64) (wd : Nat → Int64) (ho ro pa : Nat → Int32) (rs : Nat → Option Nat) (E : Nat → Nat → Int32)  (sz : Nat) (p0 : Nat) (hk : p0 < N) (hN32 : N ≤ 32) (hrow : ∀ i, i < N → rs i = some (rowA rs i) ∧ rowA rs i ∈ LP) : Met l yX0_use (wX0_use :: AW) ({ frames := 0, cells := 0, slots := 0, locals := 0 }) (va_Pc [.ref (a 6), .int (nI p0)] (CPrQ dC dI (CWl a k LP N L f1 f2 f3 f4 f5 f6 f7 f8 rd f10 f11 f12 n f14 lf wd ho ro pa rs E) [(k 0, .long), (k 1, .int), (k 2, .int), (k 3, .object "PageRows$Entry"), (k 4, .int)] sz)) (va_Qv (fun (u : (Nat → Option Nat)) => u = useRs rs p0) (fun (u : (Nat → Option Nat)) (t : State) => match u with | rs' => va_P (dC, dI) vwCl (CWl a k LP N L f1 f2 f3 f4 f5 f6 f7 f8 rd f10 f11 f12 n f14 lf wd ho ro pa rs' E) t.heap ∧ va_K (dC, dI) vwCl [(k 0, .long), (k 1, .int), (k 2, .int), (k 3, .object "PageRows$Entry"), (k 4, .int)] t ∧ va_D (va_A (CWl a k LP N L f1 f2 f3 f4 f5 f6 f7 f8 rd f10 f11 f12 n f14 lf wd ho ro pa rs E) sz) (CWl a k LP N L f1 f2 f3 f4 f5 f6 f7 f8 rd f10 f11 f12 n f14 lf wd ho ro pa rs' E)) (va_A (CWl a k LP N L f1 f2 f3 f4 f5 f6 f7 f8 rd f10 f11 f12 n f14 lf wd ho ro pa rs E) sz)) 0 0 (va_A (CWl a k LP N L f1 f2 f3 f4 f5 f6 f7 f8 rd f10 f11 f12 n f14 lf wd ho ro pa rs E) sz) := by
  refine cx_of (cc := cX0_use) (maxL := 4) (ret := none) (by decide) rfl (Nat.le_of_ble_eq_true rfl) ?_
  intro p e s m below meth c ls hx hb hr hts hown hlocks hml hnm hl hB
  have hta : ∀ w ∈ AW, w.before [.ref (a 6), .int (nI p0)].toArray s = true := fun w h => hts w (List.mem_cons_of_mem _ h)
  have hl : lv_has ls 4 [(0, .ref (a 6)), (1, .int (nI p0))] := hl
  have hown : s.vm.findClass RX0 = some m.cls := hown
  obtain ⟨rfl, ⟨hP, hK, hN⟩, hD0⟩ := hB
  have hD := hD0.self (sz := s.heap.size)
  generalize hAe : va_A (CWl a k LP N L f1 f2 f3 f4 f5 f6 f7 f8 rd f10 f11 f12 n f14 lf wd ho ro pa rs E) s.heap.size = A at hD ⊢
  have hA : ∀ q : Nat, s.heap.size ≤ q → A q := fun q h => by rw [← hAe]; exact Or.inr h
  have hS : va_S A s.heap s.heap [] := va_S.rf
  have loop : ∀ (i : Nat), i ≤ p0 → ∀ (H : Heap) (locs : List Loc), va_P (dC, dI) vwCl (CWl a k LP N L f1 f2 f3 f4 f5 f6 f7 f8 rd f10 f11 f12 n f14 lf wd ho ro pa (shf rs p0 i) E) H → va_D A (CWl a k LP N L f1 f2 f3 f4 f5 f6 f7 f8 rd f10 f11 f12 n f14 lf wd ho ro pa (shf rs p0 i) E) → va_S A s.heap H locs → ∀ (ls : Array Slot), lv_has ls 4 [(3, .int (nI i)), (2, .ref (rowA rs p0)), (0, .ref (a 6)), (1, .int (nI p0))] → W p l e ({ frames := 0, cells := 0, slots := 0, locals := 0 }) s m [.ref (a 6), .int (nI p0)].toArray below meth c H locs 0 0 (MQ below (va_Qv (fun (u : (Nat → Option Nat)) => u = useRs rs p0) (fun (u : (Nat → Option Nat)) (t : State) => match u with | rs' => va_P (dC, dI) vwCl (CWl a k LP N L f1 f2 f3 f4 f5 f6 f7 f8 rd f10 f11 f12 n f14 lf wd ho ro pa rs' E) t.heap ∧ va_K (dC, dI) vwCl [(k 0, .long), (k 1, .int), (k 2, .int), (k 3, .object "PageRows$Entry"), (k 4, .int)] t ∧ va_D A (CWl a k LP N L f1 f2 f3 f4 f5 f6 f7 f8 rd f10 f11 f12 n f14 lf wd ho ro pa rs' E)) A) [.ref (a 6), .int (nI p0)].toArray s 0 0 A) (F0 m 9 ls []) := by
    intro i
    induction i with
    | zero =>
      intro hi H locs hP hD hS ls hl
      refine lv_iload_n hx hb dX0_use_9 rfl (lv_at hl 0 rfl) ?_
      refine lv_if_le (tgt := 33) hx hb dX0_use_10 (by decide) (fun c_10_0 => ?_) (fun c_10_0 => ?_)
      · refine lv_aload_n hx hb dX0_use_33 rfl (lv_at hl 2 rfl) ?_
        refine va_get (D := (dC, dI)) (ci := 0) (v := .ref (a 7)) (C := RX0) (T := TX0) (N := 3) hx hb hta inA_X0 hown hK hP 6 rfl rfl 0 (by decide) (hta _ aw_159) (fun _ h9 => h9) rfl dX0_use_34 ?_
        refine lv_iconst (v := 0) hx hb dX0_use_37 (by decide) ?_
        refine lv_aload_n hx hb dX0_use_38 rfl (lv_at hl 1 rfl) ?_
        obtain ⟨k_2, hk_2⟩ := va_pl_get (X := (CWx a k N L f1 f2 f3 f4 f5 f6 f7 f8 rd f10 f11 f12 n f14 lf wd ho ro pa (shf rs p0 0))) (f := (CEf E)) (hrow p0 hk).2
        refine va_astq hx hb hK hP hD hS 7 3 k_2 1 rfl rfl hk_2 rfl (cx_in0 (by omega)) dX0_use_39 (fun H locs hP hD hS => ?_)
        rw [show va_up (shf rs p0 0) (0 : Int32).toNatClampNeg (some (rowA rs p0)) = useRs rs p0 from by rw [sb_cl0, ← (hrow p0 hk).1]; exact shf_end rs p0] at hP hD
        have hP : va_P (dC, dI) vwCl (CWl a k LP N L f1 f2 f3 f4 f5 f6 f7 f8 rd f10 f11 f12 n f14 lf wd ho ro pa (useRs rs p0) E) H := hP
        have hD : va_D A (CWl a k LP N L f1 f2 f3 f4 f5 f6 f7 f8 rd f10 f11 f12 n f14 lf wd ho ro pa (useRs rs p0) E) := hD
        exact W.vret hx hb hr (fun t ht hW => ⟨⟨useRs rs p0, rfl, rfl, by rw [ht]; exact hP, va_K.moved hW.alike hK, hD⟩, hS.F ht⟩) hS.2.2 dX0_use_40
      · exact absurd (show nI 0 ≤ 0 by decide) c_10_0
    | succ i ih =>
      intro hi H locs hP hD hS ls hl
      refine lv_iload_n hx hb dX0_use_9 rfl (lv_at hl 0 rfl) ?_
      refine lv_if_le (tgt := 33) hx hb dX0_use_10 (by decide) (fun c_10_2 => ?_) (fun c_10_2 => ?_)
      · exact absurd c_10_2 (nI_nle (by omega) (by omega))
      · refine lv_aload_n hx hb dX0_use_13 rfl (lv_at hl 2 rfl) ?_
        refine va_get (D := (dC, dI)) (ci := 0) (v := .ref (a 7)) (C := RX0) (T := TX0) (N := 3) hx hb hta inA_X0 hown hK hP 6 rfl rfl 0 (by decide) (hta _ aw_159) (fun _ h9 => h9) rfl dX0_use_14 ?_
        refine lv_iload_n hx hb dX0_use_17 rfl (lv_at hl 0 rfl) ?_
        refine lv_aload_n hx hb dX0_use_18 rfl (lv_at hl 2 rfl) ?_
        refine va_get (D := (dC, dI)) (ci := 0) (v := .ref (a 7)) (C := RX0) (T := TX0) (N := 3) hx hb hta inA_X0 hown hK hP 6 rfl rfl 0 (by decide) (hta _ aw_159) (fun _ h9 => h9) rfl dX0_use_19 ?_
        refine lv_iload_n hx hb dX0_use_22 rfl (lv_at hl 0 rfl) ?_
        refine lv_iconst (v := 1) hx hb dX0_use_23 (by decide) ?_
        refine lv_isub hx hb dX0_use_24 ?_
        rw [show (nI (i + 1)) - (1 : Int32) = nI i from nI_pred i]
        refine cx_aald hx hb hK hP 7 3 rfl rfl (vp_in_nI (by omega) (by omega)) (by rw [nI_clamp (by omega), shf_low rs (by omega)]; exact (hrow i (by omega)).1) dX0_use_25 ?_
        obtain ⟨k_4, hk_4⟩ := va_pl_get (X := (CWx a k N L f1 f2 f3 f4 f5 f6 f7 f8 rd f10 f11 f12 n f14 lf wd ho ro pa (shf rs p0 (i + 1)))) (f := (CEf E)) (hrow i (by omega)).2
        refine va_astq hx hb hK hP hD hS 7 3 k_4 1 rfl rfl hk_4 rfl (vp_in_nI (by omega) (by omega)) dX0_use_26 (fun H locs hP hD hS => ?_)
        rw [nI_clamp (show (i + 1) < 2 ^ 31 by omega)] at hP hD
        rw [show va_up (shf rs p0 (i + 1)) (i + 1) (some (rowA rs i)) = shf rs p0 i from by rw [← (hrow i (by omega)).1]; exact shf_step rs (by omega)] at hP hD
        have hP : va_P (dC, dI) vwCl (CWl a k LP N L f1 f2 f3 f4 f5 f6 f7 f8 rd f10 f11 f12 n f14 lf wd ho ro pa (shf rs p0 i) E) H := hP
        have hD : va_D A (CWl a k LP N L f1 f2 f3 f4 f5 f6 f7 f8 rd f10 f11 f12 n f14 lf wd ho ro pa (shf rs p0 i) E) := hD
        refine lv_iinc (v := nI i) (lv' := [(3, .int (nI i)), (2, .ref (rowA rs p0)), (0, .ref (a 6)), (1, .int (nI p0))]) hx hb dX0_use_27 hl (k := 0) rfl (cx_dec i rfl) (by decide) rfl (fun ls hl => ?_)
        refine lv_goto (tgt := 9) hx hb dX0_use_30 (by decide) ?_
        exact ih (by omega) H locs hP hD hS ls (lv_sub hl [0, 1, 2, 3] rfl)
  refine lv_aload_n hx hb dX0_use_0 rfl (lv_at hl 0 rfl) ?_
  refine va_get (D := (dC, dI)) (ci := 0) (v := .ref (a 7)) (C := RX0) (T := TX0) (N := 3) hx hb hta inA_X0 hown hK hP 6 rfl rfl 0 (by decide) (hta _ aw_159) (fun _ h9 => h9) rfl dX0_use_1 ?_
  refine lv_iload_n hx hb dX0_use_4 rfl (lv_at hl 1 rfl) ?_
  refine cx_aald hx hb hK hP 7 3 rfl rfl (vp_in_nI (by omega) (by omega)) (by rw [nI_clamp (by omega)]; exact (hrow p0 hk).1) dX0_use_5 ?_
  refine lv_astore_n (lv' := [(2, .ref (rowA rs p0)), (0, .ref (a 6)), (1, .int (nI p0))]) hx hb dX0_use_6 rfl hl (by decide) rfl (fun ls hl => ?_)
  refine lv_iload_n hx hb dX0_use_7 rfl (lv_at hl 2 rfl) ?_
  refine lv_istore_n (lv' := [(3, .int (nI p0)), (2, .ref (rowA rs p0)), (0, .ref (a 6)), (1, .int (nI p0))]) hx hb dX0_use_8 rfl hl (by decide) rfl (fun ls hl => ?_)
  exact loop p0 (Nat.le_refl p0) s.heap [] (by rw [shf_self]; exact hP) (by rw [shf_self]; exact hD) hS ls (lv_sub hl [0, 1, 2, 3] rfl)
