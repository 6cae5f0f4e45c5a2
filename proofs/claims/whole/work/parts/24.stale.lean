/-- PageRows.stale: at row i, j rows left, t found; the path's numbers -/
def mStaL (L : Nat) (f1 f8 : Int32) (wd : Nat → Int64) (ho ro : Nat → Int32) (rs : Nat → Option Nat) (E : Nat → Nat → Int32) (p0 : Int32) : Nat → Nat → Nat → Nat → Int64 → Int32 → Int32 → Int32 → (Nat → Int32) → Nat × Nat × Int64 × Int32 × Int32 × Int32 × (Nat → Int32)
  | 0, _, t, rd, lf, f10, f11, f12, pa => (t, rd, lf, f10, f11, f12, pa)
  | j + 1, i, t, rd, lf, f10, f11, f12, pa => if E 0 (rowA rs i) = f1 then
      (match mX4_isStale L f1 f8 f10 lf wd ho ro pa E (rowA rs i) p0 with
      | (r, rd', lf', f10', f11', f12', pa') => if r = 0 then mStaL L f1 f8 wd ho ro rs E p0 j (i + 1) t rd' lf' f10' f11' f12' pa' else mStaL L f1 f8 wd ho ro rs E p0 j (i + 1) (t + 1) rd' lf' f10' f11' f12' pa')
    else mStaL L f1 f8 wd ho ro rs E p0 j (i + 1) t rd lf f10 f11 f12 pa
def mStale (p0 : Int32) (x : Nat × Nat × Int64 × Int32 × Int32 × Int32 × (Nat → Int32)) : Nat ⊕ (Int32 × Nat × Int64 × Int32 × Int32 × Int32 × (Nat → Int32)) :=
  if mX4_isKind p0 = 0 then .inl 1 else .inr (nI x.1, x.2)

set_option maxHeartbeats 4000000 in
set_option maxRecDepth 100000 in
theorem c_X4_stale (l : Launch) (hl9 : l.stackTraces = false) (dC : Nat → ClassId) (dI : Nat → Nat → Nat) (a : Nat → Nat) (k : Nat → ClassId) (LP : List Nat) (N : Nat) (L : Nat) (f1 f2 f3 f4 f5 f6 f7 f8 : Int32) (rd : Nat) (f10 f11 f12 : Int32) (n : Nat) (f14 : Int32) (lf : Int64) (wd : Nat → Int64) (ho ro pa : Nat → Int32) (rs : Nat → Option Nat) (E : Nat → Nat → Int32)  (sz : Nat) (p0 : Int32) (hL1 : 1 ≤ L) (hL4 : L ≤ 4) (hho : HOK ho) (hf1 : vp_in f1 4) (hro : ¬ ro f1.toNatClampNeg < 0) (hn : n ≤ N) (hN32 : N ≤ 32) (hrow : ∀ i, i < N → rs i = some (rowA rs i) ∧ rowA rs i ∈ LP) : vx_Met l yX4_stale (wX4_stale :: AW) ({ frames := 6, cells := 1, slots := 6, locals := 96 }) (va_Pc [.ref (a 0), .int p0] (CPrX dC dI (CWl a k LP N L f1 f2 f3 f4 f5 f6 f7 f8 rd f10 f11 f12 n f14 lf wd ho ro pa rs E) [(k 0, .long), (k 1, .int), (k 2, .int), (k 3, .object "PageRows$Entry"), (k 4, .int)] sz)) (va_Qi (fun (r : Int32) (u : Nat × Int64 × Int32 × Int32 × Int32 × (Nat → Int32)) => .inr (r, u) = mStale p0 (mStaL L f1 f8 wd ho ro rs E p0 n 0 0 rd lf f10 f11 f12 pa)) (fun (u : Nat × Int64 × Int32 × Int32 × Int32 × (Nat → Int32)) (t : State) => match u with | (rd', lf', f10', f11', f12', pa') => va_P (dC, dI) vwCl (CWl a k LP N L f1 f2 f3 f4 f5 f6 f7 f8 rd' f10' f11' f12' n f14 lf' wd ho ro pa' rs E) t.heap ∧ va_K (dC, dI) vwCl [(k 0, .long), (k 1, .int), (k 2, .int), (k 3, .object "PageRows$Entry"), (k 4, .int)] t ∧ va_D (va_A (CWl a k LP N L f1 f2 f3 f4 f5 f6 f7 f8 rd f10 f11 f12 n f14 lf wd ho ro pa rs E) sz) (CWl a k LP N L f1 f2 f3 f4 f5 f6 f7 f8 rd' f10' f11' f12' n f14 lf' wd ho ro pa' rs E)) (va_A (CWl a k LP N L f1 f2 f3 f4 f5 f6 f7 f8 rd f10 f11 f12 n f14 lf wd ho ro pa rs E) sz)) (vx_X (fun u : Nat => .inl u = mStale p0 (mStaL L f1 f8 wd ho ro rs E p0 n 0 0 rd lf f10 f11 f12 pa)) (fun (E9 : String) (u : Nat) (t : State) => E9 = excN u ∧ va_P (dC, dI) vwCl (CWl a k LP N L f1 f2 f3 f4 f5 f6 f7 f8 rd f10 f11 f12 n f14 lf wd ho ro pa rs E) t.heap ∧ va_K (dC, dI) vwCl [(k 0, .long), (k 1, .int), (k 2, .int), (k 3, .object "PageRows$Entry"), (k 4, .int)] t ∧ va_D (va_A (CWl a k LP N L f1 f2 f3 f4 f5 f6 f7 f8 rd f10 f11 f12 n f14 lf wd ho ro pa rs E) sz) (CWl a k LP N L f1 f2 f3 f4 f5 f6 f7 f8 rd f10 f11 f12 n f14 lf wd ho ro pa rs E)) (va_A (CWl a k LP N L f1 f2 f3 f4 f5 f6 f7 f8 rd f10 f11 f12 n f14 lf wd ho ro pa rs E) sz)) 1 6 (va_A (CWl a k LP N L f1 f2 f3 f4 f5 f6 f7 f8 rd f10 f11 f12 n f14 lf wd ho ro pa rs E) sz) := by
  refine cx_ofX (cc := cX4_stale) (maxL := 5) (ret := some .int) (by decide) rfl (Nat.le_of_ble_eq_true rfl) ?_
  intro p e s m below meth c ls hx hb hr hts hown hlocks hml hEx hl hB
  have hta : ∀ w ∈ AW, w.before [.ref (a 0), .int p0].toArray s = true := fun w h => hts w (List.mem_cons_of_mem _ h)
  have hl : lv_has ls 5 [(0, .ref (a 0)), (1, .int p0)] := hl
  have hown : s.vm.findClass RX4 = some m.cls := hown
  obtain ⟨⟨rfl, ⟨hP, hK, hN⟩, hD0⟩, hXW, hXZ⟩ := hB
  have hD := hD0.self (sz := s.heap.size)
  generalize hAe : va_A (CWl a k LP N L f1 f2 f3 f4 f5 f6 f7 f8 rd f10 f11 f12 n f14 lf wd ho ro pa rs E) s.heap.size = A at hD hXZ ⊢
  have hA : ∀ q : Nat, s.heap.size ≤ q → A q := fun q h => by rw [← hAe]; exact Or.inr h
  have hS : va_S A s.heap s.heap [] := va_S.rf
  have loop : ¬ mX4_isKind p0 = 0 → ∀ (j i t : Nat) (rd1 : Nat) (lf1 : Int64) (f101 f111 f121 : Int32) (pa1 : Nat → Int32), i + j = n → t ≤ i → mStaL L f1 f8 wd ho ro rs E p0 n 0 0 rd lf f10 f11 f12 pa = mStaL L f1 f8 wd ho ro rs E p0 j i t rd1 lf1 f101 f111 f121 pa1 → ∀ (H : Heap) (locs : List Loc), va_P (dC, dI) vwCl (CWl a k LP N L f1 f2 f3 f4 f5 f6 f7 f8 rd1 f101 f111 f121 n f14 lf1 wd ho ro pa1 rs E) H → va_D A (CWl a k LP N L f1 f2 f3 f4 f5 f6 f7 f8 rd1 f101 f111 f121 n f14 lf1 wd ho ro pa1 rs E) → va_S A s.heap H locs → ∀ (ls : Array Slot), lv_has ls 5 [(3, .int (nI i)), (2, .int (nI t)), (0, .ref (a 0)), (1, .int p0)] → W p l e ({ frames := 6, cells := 1, slots := 6, locals := 96 }) s m [.ref (a 0), .int p0].toArray below meth c H locs 0 0 (vx_MQ below (va_Qi (fun (r : Int32) (u : Nat × Int64 × Int32 × Int32 × Int32 × (Nat → Int32)) => .inr (r, u) = mStale p0 (mStaL L f1 f8 wd ho ro rs E p0 n 0 0 rd lf f10 f11 f12 pa)) (fun (u : Nat × Int64 × Int32 × Int32 × Int32 × (Nat → Int32)) (t : State) => match u with | (rd', lf', f10', f11', f12', pa') => va_P (dC, dI) vwCl (CWl a k LP N L f1 f2 f3 f4 f5 f6 f7 f8 rd' f10' f11' f12' n f14 lf' wd ho ro pa' rs E) t.heap ∧ va_K (dC, dI) vwCl [(k 0, .long), (k 1, .int), (k 2, .int), (k 3, .object "PageRows$Entry"), (k 4, .int)] t ∧ va_D A (CWl a k LP N L f1 f2 f3 f4 f5 f6 f7 f8 rd' f10' f11' f12' n f14 lf' wd ho ro pa' rs E)) A) (vx_X (fun u : Nat => .inl u = mStale p0 (mStaL L f1 f8 wd ho ro rs E p0 n 0 0 rd lf f10 f11 f12 pa)) (fun (E9 : String) (u : Nat) (t : State) => E9 = excN u ∧ va_P (dC, dI) vwCl (CWl a k LP N L f1 f2 f3 f4 f5 f6 f7 f8 rd f10 f11 f12 n f14 lf wd ho ro pa rs E) t.heap ∧ va_K (dC, dI) vwCl [(k 0, .long), (k 1, .int), (k 2, .int), (k 3, .object "PageRows$Entry"), (k 4, .int)] t ∧ va_D A (CWl a k LP N L f1 f2 f3 f4 f5 f6 f7 f8 rd f10 f11 f12 n f14 lf wd ho ro pa rs E)) A) [.ref (a 0), .int p0].toArray s 1 6 A) (F0 m 21 ls []) := by
    intro hkind j
    induction j with
    | zero =>
      intro i t rd1 lf1 f101 f111 f121 pa1 hi hti hm H locs hP hD hS ls hl
      refine lv_iload_n hx hb dX4_stale_21 rfl (lv_at hl 0 rfl) ?_
      refine lv_aload_n hx hb dX4_stale_22 rfl (lv_at hl 2 rfl) ?_
      refine va_get (D := (dC, dI)) (ci := 4) (v := .ref (a 6)) (C := RX4) (T := TX4) (N := 12) hx hb hta inA_X4 hown hK hP 0 rfl rfl 3 (by decide) (hta _ aw_175) (fun _ h9 => h9) rfl dX4_stale_23 ?_
      refine va_getN (D := (dC, dI)) (ci := 0) (v := .int (nI n)) (C := RX0) (T := TX0) (N := 3) hx hb hta inA_X0 hown hK hP 6 rfl rfl 1 (by decide) (hN.nf 22 rfl) (fun _ h9 => h9) rfl dX4_stale_26 ?_
      refine lv_icmp_ge (tgt := 74) hx hb dX4_stale_29 (by decide) (fun c_29_2 => ?_) (fun c_29_2 => ?_)
      · refine lv_iload_n hx hb dX4_stale_74 rfl (lv_at hl 1 rfl) ?_
        refine vx_ret ?_
        refine W.widen (k := 1) (n := 6) (Nat.le_of_ble_eq_true rfl) (Nat.le_of_ble_eq_true rfl) ?_
        exact W.iret (v := nI t) hx hb hr (fun t9 ht hW => ⟨⟨nI t, (rd1, lf1, f101, f111, f121, pa1), rfl, (by unfold mStale; rewrite [if_neg hkind, hm]; rfl), by rw [ht]; exact hP, va_K.moved hW.alike hK, hD⟩, hS.F ht⟩) hS.2.2 dX4_stale_75
      · exact absurd (nI_le (by omega) (by omega)) c_29_2
    | succ j ih =>
      intro i t rd1 lf1 f101 f111 f121 pa1 hi hti hm H locs hP hD hS ls hl
      refine lv_iload_n hx hb dX4_stale_21 rfl (lv_at hl 0 rfl) ?_
      refine lv_aload_n hx hb dX4_stale_22 rfl (lv_at hl 2 rfl) ?_
      refine va_get (D := (dC, dI)) (ci := 4) (v := .ref (a 6)) (C := RX4) (T := TX4) (N := 12) hx hb hta inA_X4 hown hK hP 0 rfl rfl 3 (by decide) (hta _ aw_175) (fun _ h9 => h9) rfl dX4_stale_23 ?_
      refine va_getN (D := (dC, dI)) (ci := 0) (v := .int (nI n)) (C := RX0) (T := TX0) (N := 3) hx hb hta inA_X0 hown hK hP 6 rfl rfl 1 (by decide) (hN.nf 22 rfl) (fun _ h9 => h9) rfl dX4_stale_26 ?_
      refine lv_icmp_ge (tgt := 74) hx hb dX4_stale_29 (by decide) (fun c_29_3 => ?_) (fun c_29_3 => ?_)
      · exact absurd c_29_3 (nI_ge (by omega) (by omega))
      · refine lv_aload_n hx hb dX4_stale_32 rfl (lv_at hl 2 rfl) ?_
        refine va_get (D := (dC, dI)) (ci := 4) (v := .ref (a 6)) (C := RX4) (T := TX4) (N := 12) hx hb hta inA_X4 hown hK hP 0 rfl rfl 3 (by decide) (hta _ aw_175) (fun _ h9 => h9) rfl dX4_stale_33 ?_
        refine va_getN (D := (dC, dI)) (ci := 0) (v := .ref (a 7)) (C := RX0) (T := TX0) (N := 3) hx hb hta inA_X0 hown hK hP 6 rfl rfl 0 (by decide) (hN.nf 21 rfl) (fun _ h9 => h9) rfl dX4_stale_36 ?_
        refine lv_iload_n hx hb dX4_stale_39 rfl (lv_at hl 0 rfl) ?_
        refine cx_aald hx hb hK hP 7 3 rfl rfl (vp_in_nI (by omega) (by omega)) (by rw [nI_clamp (by omega)]; exact (hrow i (by omega)).1) dX4_stale_40 ?_
        refine lv_astore (lv' := [(4, .ref (rowA rs i)), (3, .int (nI i)), (2, .int (nI t)), (0, .ref (a 0)), (1, .int p0)]) hx hb dX4_stale_41 hl (by decide) rfl (fun ls hl => ?_)
        refine lv_aload hx hb dX4_stale_43 (lv_at hl 0 rfl) ?_
        obtain ⟨k_5, hk_5⟩ := va_pl_get (X := (CWx a k N L f1 f2 f3 f4 f5 f6 f7 f8 rd1 f101 f111 f121 n f14 lf1 wd ho ro pa1 rs)) (f := (CEf E)) (hrow i (by omega)).2
        refine va_getN (D := (dC, dI)) (ci := 1) (v := .int (E 0 (rowA rs i))) (C := RX1) (T := TX1) (N := 6) hx hb hta inA_X1 hown hK hP k_5 hk_5 rfl 0 (by decide) (hN.nf 10 rfl) (fun _ h9 => h9) rfl dX4_stale_45 ?_
        refine lv_aload_n hx hb dX4_stale_48 rfl (lv_at hl 3 rfl) ?_
        refine va_get (D := (dC, dI)) (ci := 4) (v := .int f1) (C := RX4) (T := TX4) (N := 12) hx hb hta inA_X4 hown hK hP 0 rfl rfl 5 (by decide) (hta _ aw_177) (fun _ h9 => h9) rfl dX4_stale_49 ?_
        refine lv_icmp_ne (tgt := 68) hx hb dX4_stale_52 (by decide) (fun c_52_5 => ?_) (fun c_52_5 => ?_)
        · refine lv_iinc (v := nI (i + 1)) (lv' := [(3, .int (nI (i + 1))), (4, .ref (rowA rs i)), (2, .int (nI t)), (0, .ref (a 0)), (1, .int p0)]) hx hb dX4_stale_68 hl (k := 1) rfl (cx_inc i 1 rfl) (by decide) rfl (fun ls hl => ?_)
          refine lv_goto (tgt := 21) hx hb dX4_stale_71 (by decide) ?_
          exact ih _ _ _ _ _ _ _ _ (by omega) (by omega) (by rewrite [hm, mStaL]; rewrite [if_neg c_52_5]; (first | done | rfl)) H locs hP hD hS ls (lv_sub hl [0, 2, 3, 4] rfl)
        · refine lv_aload_n hx hb dX4_stale_55 rfl (lv_at hl 3 rfl) ?_
          refine lv_aload hx hb dX4_stale_56 (lv_at hl 0 rfl) ?_
          refine lv_iload_n hx hb dX4_stale_58 rfl (lv_at hl 4 rfl) ?_
          have hFc : ∀ q, va_A (CWl a k LP N L f1 f2 f3 f4 f5 f6 f7 f8 rd1 f101 f111 f121 n f14 lf1 wd ho ro pa1 rs E) H.size q → A q := cx_free hD hS hA
          refine va_calli (va_runV (As := [.ref (rowA rs i), .int p0]) (rest := []) ⟨hx, hb, hml, hown, hta⟩ (c_X4_isStale l dC dI a k LP N L f1 f2 f3 f4 f5 f6 f7 f8 rd1 f101 f111 f121 n f14 lf1 wd ho ro pa1 rs E (rowA rs i) ((hrow i (by omega)).2) H.size p0 hL1 hL4 hho hf1 hro) (cwV 2 hta (gV aw_500 aw_502 aw_19 aw_38 aw_503) rfl rfl rfl (by decide +kernel) ⟨Nat.le_of_ble_eq_true rfl, Nat.le_of_ble_eq_true rfl⟩) (cx_preVQ hK hP hN (va_recv hK hP (ci := 4) (q0 := 0) rfl rfl) hD) rfl rfl hl.1 rfl (lv_room (Nat.le_of_ble_eq_true rfl)) dX4_stale_59 ⟨Nat.le_of_ble_eq_true rfl, Nat.le_of_ble_eq_true rfl⟩) hS (fun q _ h => hFc q h) hFc (fun r_7 u t9 H1 locs ht hvm hw_7 hB hz1 hk1 hS => ?_)
          obtain ⟨rd_7, lf_7, f10_7, f11_7, f12_7, pa_7⟩ := u
          obtain ⟨hP, hK1, hD1⟩ := hB
          rw [ht] at hP
          have hD := hD1.weaken (fun _ _ _ h => hFc _ h)
          clear hFc hz1 hk1 hK1 hD1 ht hvm
          generalize H1 = H at hP hS ⊢
          have hP : va_P (dC, dI) vwCl (CWl a k LP N L f1 f2 f3 f4 f5 f6 f7 f8 rd_7 f10_7 f11_7 f12_7 n f14 lf_7 wd ho ro pa_7 rs E) H := hP
          have hD : va_D A (CWl a k LP N L f1 f2 f3 f4 f5 f6 f7 f8 rd_7 f10_7 f11_7 f12_7 n f14 lf_7 wd ho ro pa_7 rs E) := hD
          refine lv_if_eq (tgt := 68) hx hb dX4_stale_62 (by decide) (fun c_62_7 => ?_) (fun c_62_7 => ?_)
          · refine lv_iinc (v := nI (i + 1)) (lv' := [(3, .int (nI (i + 1))), (4, .ref (rowA rs i)), (2, .int (nI t)), (0, .ref (a 0)), (1, .int p0)]) hx hb dX4_stale_68 hl (k := 1) rfl (cx_inc i 1 rfl) (by decide) rfl (fun ls hl => ?_)
            refine lv_goto (tgt := 21) hx hb dX4_stale_71 (by decide) ?_
            exact ih _ _ _ _ _ _ _ _ (by omega) (by omega) (by rewrite [hm, mStaL]; rewrite [if_pos c_52_5]; rewrite [← hw_7]; (try dsimp only); rewrite [if_pos c_62_7]; (first | done | rfl)) H locs hP hD hS ls (lv_sub hl [0, 2, 3, 4] rfl)
          · refine lv_iinc (v := nI (t + 1)) (lv' := [(2, .int (nI (t + 1))), (4, .ref (rowA rs i)), (3, .int (nI i)), (0, .ref (a 0)), (1, .int p0)]) hx hb dX4_stale_65 hl (k := 2) rfl (cx_inc t 1 rfl) (by decide) rfl (fun ls hl => ?_)
            refine lv_iinc (v := nI (i + 1)) (lv' := [(3, .int (nI (i + 1))), (2, .int (nI (t + 1))), (4, .ref (rowA rs i)), (0, .ref (a 0)), (1, .int p0)]) hx hb dX4_stale_68 hl (k := 2) rfl (cx_inc i 1 rfl) (by decide) rfl (fun ls hl => ?_)
            refine lv_goto (tgt := 21) hx hb dX4_stale_71 (by decide) ?_
            exact ih _ _ _ _ _ _ _ _ (by omega) (by omega) (by rewrite [hm, mStaL]; rewrite [if_pos c_52_5]; rewrite [← hw_7]; (try dsimp only); rewrite [if_neg c_62_7]; (first | done | rfl)) H locs hP hD hS ls (lv_sub hl [0, 1, 3, 4] rfl)
  refine lv_iload_n hx hb dX4_stale_0 rfl (lv_at hl 1 rfl) ?_
  refine cx_callSi (va_runS (As := [.int p0]) (rest := []) ⟨hx, hb, hml, hown, hta⟩ (c_X4_isKind l p0) (va_cwS 1 hta (gS aw_358 aw_359 aw_38 aw_360) rfl rfl rfl (by decide +kernel) ⟨Nat.le_of_ble_eq_true rfl, Nat.le_of_ble_eq_true rfl⟩) cx_pre0 rfl rfl hl.1 rfl (lv_room (Nat.le_of_ble_eq_true rfl)) dX4_stale_1 ⟨Nat.le_of_ble_eq_true rfl, Nat.le_of_ble_eq_true rfl⟩) (fun r hw_1 => ?_)
  subst hw_1
  refine lv_if_ne (tgt := 17) hx hb dX4_stale_4 (by decide) (fun c_4_1 => ?_) (fun c_4_1 => ?_)
  · refine lv_iconst (v := 0) hx hb dX4_stale_17 (by decide) ?_
    refine lv_istore_n (lv' := [(2, .int (0 : Int32)), (0, .ref (a 0)), (1, .int p0)]) hx hb dX4_stale_18 rfl hl (by decide) rfl (fun ls hl => ?_)
    refine lv_iconst (v := 0) hx hb dX4_stale_19 (by decide) ?_
    refine lv_istore_n (lv' := [(3, .int (0 : Int32)), (2, .int (0 : Int32)), (0, .ref (a 0)), (1, .int p0)]) hx hb dX4_stale_20 rfl hl (by decide) rfl (fun ls hl => ?_)
    exact loop c_4_1 n 0 0 rd lf f10 f11 f12 pa (by omega) (by omega) rfl s.heap [] hP hD hS ls (lv_sub hl [0, 1, 2, 3] rfl)
  · exact cx_throwA hx hb hl9 hown hta aw_326 aw_48 (List.mem_of_getElem? (i := 4) rfl) hXW hXZ hS hl hml dX4_stale_7 dX4_stale_10 dX4_stale_11 dX4_stale_13 dX4_stale_16 hEx (Nat.le_of_ble_eq_true rfl) (Nat.le_of_ble_eq_true rfl) (Nat.le_of_ble_eq_true rfl) (Nat.le_of_ble_eq_true rfl) hlocks hS.2.2 (Nat.le_of_ble_eq_true rfl) (Nat.le_of_ble_eq_true rfl) (fun t ha hsz hk => ⟨1, (by unfold mStale; rewrite [if_pos c_4_1]; rfl), ⟨rfl, hP.kept (fun k q hq => hk q.1 (hP k q hq).lt), va_K.moved ha hK, hD⟩, Nat.le_trans hS.1 hsz, fun q h1 h2 => (hk q (Nat.lt_of_lt_of_le h1 hS.1)).trans (hS.2.1 q h1 h2)⟩)
