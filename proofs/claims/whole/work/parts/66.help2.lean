def mL_walk (N : Nat) (ov : Nat → Int64) (L : Nat) (f1 : Int32) (f2 : Int32) (f3 : Int32) (f4 : Int32) (f5 : Int32) (f6 : Int32) (f7 : Int32) (f8 : Int32) (rd : Nat) (f10 : Int32) (f11 : Int32) (f12 : Int32) (n : Nat) (f14 : Int32) (lf : Int64) (wd : Nat → Int64) (ho : Nat → Int32) (ro : Nat → Int32) (pa : Nat → Int32) (rs : Nat → Option Nat) (E : Nat → Nat → Int32) (p0 : Int32) (p1 : Int32) : Int32 × (Nat → Int64) × Int32 × Int32 × Int32 × Int32 × Int32 × Int32 × Nat × Int32 × Int32 × Int32 × Nat × Int32 × Int64 × (Nat → Int64) × (Nat → Int32) × (Nat → Option Nat) × (Nat → Nat → Int32) :=
  match mX4_walk N L f1 f4 f5 f6 f7 f8 rd f10 f11 f12 n f14 lf wd ho ro pa rs E p0 p1 with
  | .inl _ => (1, ov, f2, f3, f4, f5, f6, f7, rd, f10, f11, f12, n, f14, lf, wd, pa, rs, E)
  | .inr (r, f2', f3', f4', f5', f6', f7', rd', f10', f11', f12', n', f14', lf', wd', pa', rs', E') => (0, vp_updL ov 0 (r.toInt64), f2', f3', f4', f5', f6', f7', rd', f10', f11', f12', n', f14', lf', wd', pa', rs', E')
theorem thr_walk {N : Nat} {L : Nat} {f1 : Int32} {f4 : Int32} {f5 : Int32} {f6 : Int32} {f7 : Int32} {f8 : Int32} {rd : Nat} {f10 : Int32} {f11 : Int32} {f12 : Int32} {n : Nat} {f14 : Int32} {lf : Int64} {wd : Nat → Int64} {ho : Nat → Int32} {ro : Nat → Int32} {pa : Nat → Int32} {rs : Nat → Option Nat} {E : Nat → Nat → Int32} {p0 : Int32} {p1 : Int32} {u : Nat} (h : (.inl u : Nat ⊕ (Int32 × Int32 × Int32 × Int32 × Int32 × Int32 × Int32 × Nat × Int32 × Int32 × Int32 × Nat × Int32 × Int64 × (Nat → Int64) × (Nat → Int32) × (Nat → Option Nat) × (Nat → Nat → Int32))) = mX4_walk N L f1 f4 f5 f6 f7 f8 rd f10 f11 f12 n f14 lf wd ho ro pa rs E p0 p1) : u = 1 := by
  unfold mX4_walk at h
  revert h
  repeat' split
  all_goals (intro h; first | (cases h; rfl) | (cases h))
set_option maxHeartbeats 4000000 in
set_option maxRecDepth 100000 in
theorem c_L_walk (l : Launch) (hl9 : l.stackTraces = false) (dC : Nat → ClassId) (dI : Nat → Nat → Nat) (o : Nat) (ko : ClassId) (ov : Nat → Int64) (a : Nat → Nat) (k : Nat → ClassId) (LP : List Nat) (N : Nat) (L : Nat) (f1 f2 f3 f4 f5 f6 f7 f8 : Int32) (rd : Nat) (f10 f11 f12 : Int32) (n : Nat) (f14 : Int32) (lf : Int64) (wd : Nat → Int64) (ho ro pa : Nat → Int32) (rs : Nat → Option Nat) (E : Nat → Nat → Int32) (sz : Nat) (p0 : Int32) (p1 : Int32) (hL1 : 1 ≤ L) (hL4 : L ≤ 4) (hho : HOK ho) (hf1 : vp_in f1 4) (hro : ¬ ro f1.toNatClampNeg < 0) (hn : n ≤ N) (h0N : 0 < N) (hN32 : N ≤ 32) (hrow : ∀ i, i < N → rs i = some (rowA rs i) ∧ rowA rs i ∈ LP) : Met l yL_walk (wL_walk :: AW) ({ frames := 7, cells := 1, slots := 6, locals := 137 }) (va_Pc [.ref (a 0), .int p0, .int p1, .ref o] (CPrL dC dI (OWl o ko ov a k LP N L f1 f2 f3 f4 f5 f6 f7 f8 rd f10 f11 f12 n f14 lf wd ho ro pa rs E) ((ko, .long) :: [(k 0, .long), (k 1, .int), (k 2, .int), (k 3, .object "PageRows$Entry"), (k 4, .int)]) sz)) (va_Qi (fun (r : Int32) (u : (Nat → Int64) × Int32 × Int32 × Int32 × Int32 × Int32 × Int32 × Nat × Int32 × Int32 × Int32 × Nat × Int32 × Int64 × (Nat → Int64) × (Nat → Int32) × (Nat → Option Nat) × (Nat → Nat → Int32)) => (r, u) = mL_walk N ov L f1 f2 f3 f4 f5 f6 f7 f8 rd f10 f11 f12 n f14 lf wd ho ro pa rs E p0 p1) (fun (u : (Nat → Int64) × Int32 × Int32 × Int32 × Int32 × Int32 × Int32 × Nat × Int32 × Int32 × Int32 × Nat × Int32 × Int64 × (Nat → Int64) × (Nat → Int32) × (Nat → Option Nat) × (Nat → Nat → Int32)) (t : State) => match u with | (ov', f2', f3', f4', f5', f6', f7', rd', f10', f11', f12', n', f14', lf', wd', pa', rs', E') => va_P (dC, dI) vwCl (OWl o ko ov' a k LP N L f1 f2' f3' f4' f5' f6' f7' f8 rd' f10' f11' f12' n' f14' lf' wd' ho ro pa' rs' E') t.heap ∧ va_K (dC, dI) vwCl ((ko, .long) :: [(k 0, .long), (k 1, .int), (k 2, .int), (k 3, .object "PageRows$Entry"), (k 4, .int)]) t ∧ va_D (va_A (OWl o ko ov a k LP N L f1 f2 f3 f4 f5 f6 f7 f8 rd f10 f11 f12 n f14 lf wd ho ro pa rs E) sz) (OWl o ko ov' a k LP N L f1 f2' f3' f4' f5' f6' f7' f8 rd' f10' f11' f12' n' f14' lf' wd' ho ro pa' rs' E')) (va_A (OWl o ko ov a k LP N L f1 f2 f3 f4 f5 f6 f7 f8 rd f10 f11 f12 n f14 lf wd ho ro pa rs E) sz)) 1 6 (va_A (OWl o ko ov a k LP N L f1 f2 f3 f4 f5 f6 f7 f8 rd f10 f11 f12 n f14 lf wd ho ro pa rs E) sz) := by
  refine cx_ofT (cc := cL_walk) (maxL := 5) (ret := some .int) (hh := [(0, 10, 13, 27)]) (by decide) rfl (Nat.le_of_ble_eq_true rfl) ?_
  intro p e s m below meth c ls hx hb hr hts hown hlocks hml hTab hl hB
  have hta : ∀ w ∈ AW, w.before [.ref (a 0), .int p0, .int p1, .ref o].toArray s = true := fun w h => hts w (List.mem_cons_of_mem _ h)
  have hl : lv_has ls 5 [(0, .ref (a 0)), (1, .int p0), (2, .int p1), (3, .ref o)] := hl
  have hown : s.vm.findClass RL = some m.cls := hown
  obtain ⟨⟨⟨rfl, ⟨hP, hK, hN⟩, hD0⟩, hXW, hXZ⟩, hNc⟩ := hB
  have hD := hD0.self (sz := s.heap.size)
  generalize hAe : va_A (OWl o ko ov a k LP N L f1 f2 f3 f4 f5 f6 f7 f8 rd f10 f11 f12 n f14 lf wd ho ro pa rs E) s.heap.size = A at hD hXZ ⊢
  have hA : ∀ q : Nat, s.heap.size ≤ q → A q := fun q h => by rw [← hAe]; exact Or.inr h
  have hS : va_S A s.heap s.heap [] := va_S.rf
  refine lv_aload_n hx hb dL_walk_0 rfl (lv_at hl 3 rfl) ?_
  refine lv_iconst (v := 0) hx hb dL_walk_1 (by decide) ?_
  refine lv_aload_n hx hb dL_walk_2 rfl (lv_at hl 0 rfl) ?_
  refine lv_iload_n hx hb dL_walk_3 rfl (lv_at hl 1 rfl) ?_
  refine lv_iload_n hx hb dL_walk_4 rfl (lv_at hl 2 rfl) ?_
  have hPc := va_P.part (cx := (CWx a k N L f1 f2 f3 f4 f5 f6 f7 f8 rd f10 f11 f12 n f14 lf wd ho ro pa rs)) hP [1, 2, 3, 4, 5, 6, 7, 8, 9] rfl
  have hDc := va_D.part (cx := (CWx a k N L f1 f2 f3 f4 f5 f6 f7 f8 rd f10 f11 f12 n f14 lf wd ho ro pa rs)) hD [1, 2, 3, 4, 5, 6, 7, 8, 9] (by decide) rfl
  have hKc := hK.sub (tys' := [(k 0, .long), (k 1, .int), (k 2, .int), (k 3, .object "PageRows$Entry"), (k 4, .int)]) [1, 2, 3, 4, 5] rfl
  have hFc := va_freeP (cx := (CWx a k N L f1 f2 f3 f4 f5 f6 f7 f8 rd f10 f11 f12 n f14 lf wd ho ro pa rs)) hD hS hA [1, 2, 3, 4, 5, 6, 7, 8, 9] rfl
  refine vx_calli (vx_runV (As := [.int p0, .int p1]) (rest := [.int (0 : Int32), .ref o]) ⟨hx, hb, hml, hown, hta⟩ (c_X4_walk l hl9 dC dI a k LP N L f1 f2 f3 f4 f5 f6 f7 f8 rd f10 f11 f12 n f14 lf wd ho ro pa rs E s.heap.size p0 p1 hL1 hL4 hho hf1 hro hn h0N hN32 hrow) (cwV 2 hta (gV aw_354 aw_355 aw_356 aw_38 aw_357) rfl rfl rfl (by decide +kernel) ⟨Nat.le_of_ble_eq_true rfl, Nat.le_of_ble_eq_true rfl⟩) (cx_preVX hKc hPc hN (va_recv hKc hPc (ci := 4) (q0 := 0) rfl rfl) hDc hXW (cx_xz hXZ hS hFc)) rfl rfl hl.1 rfl (lv_room (Nat.le_of_ble_eq_true rfl)) dL_walk_5 ⟨Nat.le_of_ble_eq_true rfl, Nat.le_of_ble_eq_true rfl⟩) hS (fun q _ h => hFc q h) hFc (fun q _ h => hFc q h) (fun E9 ce q9 u t9 H1 locs ht hvm hw hB hz1 hk1 hS hce hcv hcl => ?_) (fun r9 u t9 H1 locs ht hvm hw hB hz1 hk1 hS => ?_)
  · obtain ⟨rfl, hP1, hK1, hD1⟩ := hB
    rw [ht] at hP1
    obtain ⟨hP, hD⟩ := va_joinP (wr := [(o, .inl (ko, 1, .inr (.inl ov)))]) (rx := (CWx a k N L f1 f2 f3 f4 f5 f6 f7 f8 rd f10 f11 f12 n f14 lf wd ho ro pa rs)) (pl1 := va_pl LP (CEf E)) hP hD [1, 2, 3, 4, 5, 6, 7, 8, 9] [0] rfl rfl (by decide) (by decide) hk1 hFc hP1 hD1
    clear hFc hz1 hk1 hK1 hD1 hP1 hPc hDc hKc ht hvm
    generalize H1 = H at hP hS hce ⊢
    have hP : va_P (dC, dI) vwCl (OWl o ko ov a k LP N L f1 f2 f3 f4 f5 f6 f7 f8 rd f10 f11 f12 n f14 lf wd ho ro pa rs E) H := hP
    have hD : va_D A (OWl o ko ov a k LP N L f1 f2 f3 f4 f5 f6 f7 f8 rd f10 f11 f12 n f14 lf wd ho ro pa rs E) := hD
    obtain rfl := thr_walk hw
    refine vx_catch (own := RL) (name := IAE) (E := excN 1) hown [] ⟨0, 10, 13, 27⟩ [] (by rw [hTab]; rfl) (fun z hz => nomatch hz) (by decide) (by decide) (hta _ aw_321) (va_Nw.use rfl hXW.2.1) hce hcv hcl ?_
    refine W.eq (g2 := F0 m 13 ls [.ref q9]) rfl ?_
    refine lv_astore (lv' := [(4, .ref q9), (0, .ref (a 0)), (1, .int p0), (2, .int p1), (3, .ref o)]) hx hb dL_walk_13 hl (by decide) rfl (fun ls hl => ?_)
    refine lv_iconst (v := 1) hx hb dL_walk_15 (by decide) ?_
    exact W.iret (v := (1 : Int32)) hx hb hr (fun t ht hW => ⟨⟨(1 : Int32), (ov, f2, f3, f4, f5, f6, f7, rd, f10, f11, f12, n, f14, lf, wd, pa, rs, E), rfl, (by unfold mL_walk; rewrite [← hw]; rfl), by rw [ht]; exact hP, va_K.moved hW.alike hK, hD⟩, hS.F ht⟩) hS.2.2 dL_walk_16
  · obtain ⟨f2', f3', f4', f5', f6', f7', rd', f10', f11', f12', n', f14', lf', wd', pa', rs', E'⟩ := u
    obtain ⟨hP1, hK1, hD1⟩ := hB
    rw [ht] at hP1
    obtain ⟨hP, hD⟩ := va_joinP (wr := [(o, .inl (ko, 1, .inr (.inl ov)))]) (rx := (CWx a k N L f1 f2' f3' f4' f5' f6' f7' f8 rd' f10' f11' f12' n' f14' lf' wd' ho ro pa' rs')) (pl1 := va_pl LP (CEf E')) hP hD [1, 2, 3, 4, 5, 6, 7, 8, 9] [0] rfl rfl (by decide) (by decide) hk1 hFc hP1 hD1
    clear hFc hz1 hk1 hK1 hD1 hP1 hPc hDc hKc ht hvm
    generalize H1 = H at hP hS ⊢
    have hP : va_P (dC, dI) vwCl (OWl o ko ov a k LP N L f1 f2' f3' f4' f5' f6' f7' f8 rd' f10' f11' f12' n' f14' lf' wd' ho ro pa' rs' E') H := hP
    have hD : va_D A (OWl o ko ov a k LP N L f1 f2' f3' f4' f5' f6' f7' f8 rd' f10' f11' f12' n' f14' lf' wd' ho ro pa' rs' E') := hD
    refine lv_i2l (v := r9.toInt64) hx hb dL_walk_8 rfl ?_
    refine va_last hx hb hK hP hD hS 0 0 rfl rfl (show vp_in (nI 0) 1 from vp_in_nI (by decide) (by decide)) dL_walk_9 (fun H locs hP hD hS => ?_)
    rw [show ((0 : Int32)).toNatClampNeg = 0 from rfl] at hP hD
    have hP : va_P (dC, dI) vwCl (OWl o ko (vp_updL ov 0 r9.toInt64) a k LP N L f1 f2' f3' f4' f5' f6' f7' f8 rd' f10' f11' f12' n' f14' lf' wd' ho ro pa' rs' E') H := hP
    have hD : va_D A (OWl o ko (vp_updL ov 0 r9.toInt64) a k LP N L f1 f2' f3' f4' f5' f6' f7' f8 rd' f10' f11' f12' n' f14' lf' wd' ho ro pa' rs' E') := hD
    refine lv_goto (tgt := 17) hx hb dL_walk_10 (by decide) ?_
    refine lv_iconst (v := 0) hx hb dL_walk_17 (by decide) ?_
    exact W.iret (v := (0 : Int32)) hx hb hr (fun t ht hW => ⟨⟨(0 : Int32), (vp_updL ov 0 r9.toInt64, f2', f3', f4', f5', f6', f7', rd', f10', f11', f12', n', f14', lf', wd', pa', rs', E'), rfl, (by unfold mL_walk; rewrite [← hw]; rfl), by rw [ht]; exact hP, va_K.moved hW.alike hK, hD⟩, hS.F ht⟩) hS.2.2 dL_walk_18
def mL_plain (ov : Nat → Int64) (L : Nat) (f1 : Int32) (f8 : Int32) (rd : Nat) (f10 : Int32) (f11 : Int32) (f12 : Int32) (lf : Int64) (wd : Nat → Int64) (ho : Nat → Int32) (ro : Nat → Int32) (pa : Nat → Int32) (p0 : Int32) (p1 : Int32) : Int32 × (Nat → Int64) × Nat × Int64 × Int32 × Int32 × Int32 × (Nat → Int32) :=
  match mX4_plain L f1 f8 f10 lf wd ho ro pa p0 p1 with
  | .inl _ => (1, ov, rd, lf, f10, f11, f12, pa)
  | .inr (r, rd', lf', f10', f11', f12', pa') => (0, vp_updL ov 0 (r.toInt64), rd', lf', f10', f11', f12', pa')
theorem thr_plain {L : Nat} {f1 : Int32} {f8 : Int32} {f10 : Int32} {lf : Int64} {wd : Nat → Int64} {ho : Nat → Int32} {ro : Nat → Int32} {pa : Nat → Int32} {p0 : Int32} {p1 : Int32} {u : Nat} (h : (.inl u : Nat ⊕ (Int32 × Nat × Int64 × Int32 × Int32 × Int32 × (Nat → Int32))) = mX4_plain L f1 f8 f10 lf wd ho ro pa p0 p1) : u = 1 := by
  unfold mX4_plain at h
  revert h
  repeat' split
  all_goals (intro h; first | (cases h; rfl) | (cases h))
set_option maxHeartbeats 4000000 in
set_option maxRecDepth 100000 in
theorem c_L_plain (l : Launch) (hl9 : l.stackTraces = false) (dC : Nat → ClassId) (dI : Nat → Nat → Nat) (o : Nat) (ko : ClassId) (ov : Nat → Int64) (a : Nat → Nat) (k : Nat → ClassId) (LP : List Nat) (N : Nat) (L : Nat) (f1 f2 f3 f4 f5 f6 f7 f8 : Int32) (rd : Nat) (f10 f11 f12 : Int32) (n : Nat) (f14 : Int32) (lf : Int64) (wd : Nat → Int64) (ho ro pa : Nat → Int32) (rs : Nat → Option Nat) (E : Nat → Nat → Int32) (sz : Nat) (p0 : Int32) (p1 : Int32) (hL1 : 1 ≤ L) (hL4 : L ≤ 4) (hho : HOK ho) (hf1 : vp_in f1 4) (hro : ¬ ro f1.toNatClampNeg < 0) : Met l yL_plain (wL_plain :: AW) ({ frames := 7, cells := 1, slots := 6, locals := 114 }) (va_Pc [.ref (a 0), .int p0, .int p1, .ref o] (CPrL dC dI (OWl o ko ov a k LP N L f1 f2 f3 f4 f5 f6 f7 f8 rd f10 f11 f12 n f14 lf wd ho ro pa rs E) ((ko, .long) :: [(k 0, .long), (k 1, .int), (k 2, .int), (k 3, .object "PageRows$Entry"), (k 4, .int)]) sz)) (va_Qi (fun (r : Int32) (u : (Nat → Int64) × Nat × Int64 × Int32 × Int32 × Int32 × (Nat → Int32)) => (r, u) = mL_plain ov L f1 f8 rd f10 f11 f12 lf wd ho ro pa p0 p1) (fun (u : (Nat → Int64) × Nat × Int64 × Int32 × Int32 × Int32 × (Nat → Int32)) (t : State) => match u with | (ov', rd', lf', f10', f11', f12', pa') => va_P (dC, dI) vwCl (OWl o ko ov' a k LP N L f1 f2 f3 f4 f5 f6 f7 f8 rd' f10' f11' f12' n f14 lf' wd ho ro pa' rs E) t.heap ∧ va_K (dC, dI) vwCl ((ko, .long) :: [(k 0, .long), (k 1, .int), (k 2, .int), (k 3, .object "PageRows$Entry"), (k 4, .int)]) t ∧ va_D (va_A (OWl o ko ov a k LP N L f1 f2 f3 f4 f5 f6 f7 f8 rd f10 f11 f12 n f14 lf wd ho ro pa rs E) sz) (OWl o ko ov' a k LP N L f1 f2 f3 f4 f5 f6 f7 f8 rd' f10' f11' f12' n f14 lf' wd ho ro pa' rs E)) (va_A (OWl o ko ov a k LP N L f1 f2 f3 f4 f5 f6 f7 f8 rd f10 f11 f12 n f14 lf wd ho ro pa rs E) sz)) 1 6 (va_A (OWl o ko ov a k LP N L f1 f2 f3 f4 f5 f6 f7 f8 rd f10 f11 f12 n f14 lf wd ho ro pa rs E) sz) := by
  refine cx_ofT (cc := cL_plain) (maxL := 5) (ret := some .int) (hh := [(0, 10, 13, 27)]) (by decide) rfl (Nat.le_of_ble_eq_true rfl) ?_
  intro p e s m below meth c ls hx hb hr hts hown hlocks hml hTab hl hB
  have hta : ∀ w ∈ AW, w.before [.ref (a 0), .int p0, .int p1, .ref o].toArray s = true := fun w h => hts w (List.mem_cons_of_mem _ h)
  have hl : lv_has ls 5 [(0, .ref (a 0)), (1, .int p0), (2, .int p1), (3, .ref o)] := hl
  have hown : s.vm.findClass RL = some m.cls := hown
  obtain ⟨⟨⟨rfl, ⟨hP, hK, hN⟩, hD0⟩, hXW, hXZ⟩, hNc⟩ := hB
  have hD := hD0.self (sz := s.heap.size)
  generalize hAe : va_A (OWl o ko ov a k LP N L f1 f2 f3 f4 f5 f6 f7 f8 rd f10 f11 f12 n f14 lf wd ho ro pa rs E) s.heap.size = A at hD hXZ ⊢
  have hA : ∀ q : Nat, s.heap.size ≤ q → A q := fun q h => by rw [← hAe]; exact Or.inr h
  have hS : va_S A s.heap s.heap [] := va_S.rf
  refine lv_aload_n hx hb dL_plain_0 rfl (lv_at hl 3 rfl) ?_
  refine lv_iconst (v := 0) hx hb dL_plain_1 (by decide) ?_
  refine lv_aload_n hx hb dL_plain_2 rfl (lv_at hl 0 rfl) ?_
  refine lv_iload_n hx hb dL_plain_3 rfl (lv_at hl 1 rfl) ?_
  refine lv_iload_n hx hb dL_plain_4 rfl (lv_at hl 2 rfl) ?_
  have hPc := va_P.part (cx := (CWx a k N L f1 f2 f3 f4 f5 f6 f7 f8 rd f10 f11 f12 n f14 lf wd ho ro pa rs)) hP [1, 2, 3, 4, 5, 6, 7, 8, 9] rfl
  have hDc := va_D.part (cx := (CWx a k N L f1 f2 f3 f4 f5 f6 f7 f8 rd f10 f11 f12 n f14 lf wd ho ro pa rs)) hD [1, 2, 3, 4, 5, 6, 7, 8, 9] (by decide) rfl
  have hKc := hK.sub (tys' := [(k 0, .long), (k 1, .int), (k 2, .int), (k 3, .object "PageRows$Entry"), (k 4, .int)]) [1, 2, 3, 4, 5] rfl
  have hFc := va_freeP (cx := (CWx a k N L f1 f2 f3 f4 f5 f6 f7 f8 rd f10 f11 f12 n f14 lf wd ho ro pa rs)) hD hS hA [1, 2, 3, 4, 5, 6, 7, 8, 9] rfl
  refine vx_calli (vx_runV (As := [.int p0, .int p1]) (rest := [.int (0 : Int32), .ref o]) ⟨hx, hb, hml, hown, hta⟩ (c_X4_plain l hl9 dC dI a k LP N L f1 f2 f3 f4 f5 f6 f7 f8 rd f10 f11 f12 n f14 lf wd ho ro pa rs E s.heap.size p0 p1 hL1 hL4 hho hf1 hro) (cwV 2 hta (gV aw_461 aw_462 aw_463 aw_38 aw_464) rfl rfl rfl (by decide +kernel) ⟨Nat.le_of_ble_eq_true rfl, Nat.le_of_ble_eq_true rfl⟩) (cx_preVX hKc hPc hN (va_recv hKc hPc (ci := 4) (q0 := 0) rfl rfl) hDc hXW (cx_xz hXZ hS hFc)) rfl rfl hl.1 rfl (lv_room (Nat.le_of_ble_eq_true rfl)) dL_plain_5 ⟨Nat.le_of_ble_eq_true rfl, Nat.le_of_ble_eq_true rfl⟩) hS (fun q _ h => hFc q h) hFc (fun q _ h => hFc q h) (fun E9 ce q9 u t9 H1 locs ht hvm hw hB hz1 hk1 hS hce hcv hcl => ?_) (fun r9 u t9 H1 locs ht hvm hw hB hz1 hk1 hS => ?_)
  · obtain ⟨rfl, hP1, hK1, hD1⟩ := hB
    rw [ht] at hP1
    obtain ⟨hP, hD⟩ := va_joinP (wr := [(o, .inl (ko, 1, .inr (.inl ov)))]) (rx := (CWx a k N L f1 f2 f3 f4 f5 f6 f7 f8 rd f10 f11 f12 n f14 lf wd ho ro pa rs)) (pl1 := va_pl LP (CEf E)) hP hD [1, 2, 3, 4, 5, 6, 7, 8, 9] [0] rfl rfl (by decide) (by decide) hk1 hFc hP1 hD1
    clear hFc hz1 hk1 hK1 hD1 hP1 hPc hDc hKc ht hvm
    generalize H1 = H at hP hS hce ⊢
    have hP : va_P (dC, dI) vwCl (OWl o ko ov a k LP N L f1 f2 f3 f4 f5 f6 f7 f8 rd f10 f11 f12 n f14 lf wd ho ro pa rs E) H := hP
    have hD : va_D A (OWl o ko ov a k LP N L f1 f2 f3 f4 f5 f6 f7 f8 rd f10 f11 f12 n f14 lf wd ho ro pa rs E) := hD
    obtain rfl := thr_plain hw
    refine vx_catch (own := RL) (name := IAE) (E := excN 1) hown [] ⟨0, 10, 13, 27⟩ [] (by rw [hTab]; rfl) (fun z hz => nomatch hz) (by decide) (by decide) (hta _ aw_321) (va_Nw.use rfl hXW.2.1) hce hcv hcl ?_
    refine W.eq (g2 := F0 m 13 ls [.ref q9]) rfl ?_
    refine lv_astore (lv' := [(4, .ref q9), (0, .ref (a 0)), (1, .int p0), (2, .int p1), (3, .ref o)]) hx hb dL_plain_13 hl (by decide) rfl (fun ls hl => ?_)
    refine lv_iconst (v := 1) hx hb dL_plain_15 (by decide) ?_
    exact W.iret (v := (1 : Int32)) hx hb hr (fun t ht hW => ⟨⟨(1 : Int32), (ov, rd, lf, f10, f11, f12, pa), rfl, (by unfold mL_plain; rewrite [← hw]; rfl), by rw [ht]; exact hP, va_K.moved hW.alike hK, hD⟩, hS.F ht⟩) hS.2.2 dL_plain_16
  · obtain ⟨rd', lf', f10', f11', f12', pa'⟩ := u
    obtain ⟨hP1, hK1, hD1⟩ := hB
    rw [ht] at hP1
    obtain ⟨hP, hD⟩ := va_joinP (wr := [(o, .inl (ko, 1, .inr (.inl ov)))]) (rx := (CWx a k N L f1 f2 f3 f4 f5 f6 f7 f8 rd' f10' f11' f12' n f14 lf' wd ho ro pa' rs)) (pl1 := va_pl LP (CEf E)) hP hD [1, 2, 3, 4, 5, 6, 7, 8, 9] [0] rfl rfl (by decide) (by decide) hk1 hFc hP1 hD1
    clear hFc hz1 hk1 hK1 hD1 hP1 hPc hDc hKc ht hvm
    generalize H1 = H at hP hS ⊢
    have hP : va_P (dC, dI) vwCl (OWl o ko ov a k LP N L f1 f2 f3 f4 f5 f6 f7 f8 rd' f10' f11' f12' n f14 lf' wd ho ro pa' rs E) H := hP
    have hD : va_D A (OWl o ko ov a k LP N L f1 f2 f3 f4 f5 f6 f7 f8 rd' f10' f11' f12' n f14 lf' wd ho ro pa' rs E) := hD
    refine lv_i2l (v := r9.toInt64) hx hb dL_plain_8 rfl ?_
    refine va_last hx hb hK hP hD hS 0 0 rfl rfl (show vp_in (nI 0) 1 from vp_in_nI (by decide) (by decide)) dL_plain_9 (fun H locs hP hD hS => ?_)
    rw [show ((0 : Int32)).toNatClampNeg = 0 from rfl] at hP hD
    have hP : va_P (dC, dI) vwCl (OWl o ko (vp_updL ov 0 r9.toInt64) a k LP N L f1 f2 f3 f4 f5 f6 f7 f8 rd' f10' f11' f12' n f14 lf' wd ho ro pa' rs E) H := hP
    have hD : va_D A (OWl o ko (vp_updL ov 0 r9.toInt64) a k LP N L f1 f2 f3 f4 f5 f6 f7 f8 rd' f10' f11' f12' n f14 lf' wd ho ro pa' rs E) := hD
    refine lv_goto (tgt := 17) hx hb dL_plain_10 (by decide) ?_
    refine lv_iconst (v := 0) hx hb dL_plain_17 (by decide) ?_
    exact W.iret (v := (0 : Int32)) hx hb hr (fun t ht hW => ⟨⟨(0 : Int32), (vp_updL ov 0 r9.toInt64, rd', lf', f10', f11', f12', pa'), rfl, (by unfold mL_plain; rewrite [← hw]; rfl), by rw [ht]; exact hP, va_K.moved hW.alike hK, hD⟩, hS.F ht⟩) hS.2.2 dL_plain_18
def mL_flush (ov : Nat → Int64) (f1 : Int32) (n : Nat) (rs : Nat → Option Nat) (E : Nat → Nat → Int32) (p0 : Int32) (p1 : Int32) : Int32 × (Nat → Int64) × Nat × (Nat → Option Nat) :=
  match mX4_flush f1 n rs E p0 p1 with
  | .inl _ => (1, ov, n, rs)
  | .inr (r, n', rs') => (0, vp_updL ov 0 (r.toInt64), n', rs')
theorem thr_flush {f1 : Int32} {n : Nat} {rs : Nat → Option Nat} {E : Nat → Nat → Int32} {p0 : Int32} {p1 : Int32} {u : Nat} (h : (.inl u : Nat ⊕ (Int32 × Nat × (Nat → Option Nat))) = mX4_flush f1 n rs E p0 p1) : u = 1 := by
  unfold mX4_flush at h
  revert h
  repeat' split
  all_goals (intro h; first | (cases h; rfl) | (cases h))
set_option maxHeartbeats 4000000 in
set_option maxRecDepth 100000 in
theorem c_L_flush (l : Launch) (hl9 : l.stackTraces = false) (dC : Nat → ClassId) (dI : Nat → Nat → Nat) (o : Nat) (ko : ClassId) (ov : Nat → Int64) (a : Nat → Nat) (k : Nat → ClassId) (LP : List Nat) (N : Nat) (L : Nat) (f1 f2 f3 f4 f5 f6 f7 f8 : Int32) (rd : Nat) (f10 f11 f12 : Int32) (n : Nat) (f14 : Int32) (lf : Int64) (wd : Nat → Int64) (ho ro pa : Nat → Int32) (rs : Nat → Option Nat) (E : Nat → Nat → Int32) (sz : Nat) (p0 : Int32) (p1 : Int32) (hn : n ≤ N) (hN32 : N ≤ 32) (hrow : ∀ i, i < N → rs i = some (rowA rs i) ∧ rowA rs i ∈ LP) : Met l yL_flush (wL_flush :: AW) ({ frames := 7, cells := 1, slots := 6, locals := 113 }) (va_Pc [.ref (a 0), .int p0, .int p1, .ref o] (CPrL dC dI (OWl o ko ov a k LP N L f1 f2 f3 f4 f5 f6 f7 f8 rd f10 f11 f12 n f14 lf wd ho ro pa rs E) ((ko, .long) :: [(k 0, .long), (k 1, .int), (k 2, .int), (k 3, .object "PageRows$Entry"), (k 4, .int)]) sz)) (va_Qi (fun (r : Int32) (u : (Nat → Int64) × Nat × (Nat → Option Nat)) => (r, u) = mL_flush ov f1 n rs E p0 p1) (fun (u : (Nat → Int64) × Nat × (Nat → Option Nat)) (t : State) => match u with | (ov', n', rs') => va_P (dC, dI) vwCl (OWl o ko ov' a k LP N L f1 f2 f3 f4 f5 f6 f7 f8 rd f10 f11 f12 n' f14 lf wd ho ro pa rs' E) t.heap ∧ va_K (dC, dI) vwCl ((ko, .long) :: [(k 0, .long), (k 1, .int), (k 2, .int), (k 3, .object "PageRows$Entry"), (k 4, .int)]) t ∧ va_D (va_A (OWl o ko ov a k LP N L f1 f2 f3 f4 f5 f6 f7 f8 rd f10 f11 f12 n f14 lf wd ho ro pa rs E) sz) (OWl o ko ov' a k LP N L f1 f2 f3 f4 f5 f6 f7 f8 rd f10 f11 f12 n' f14 lf wd ho ro pa rs' E)) (va_A (OWl o ko ov a k LP N L f1 f2 f3 f4 f5 f6 f7 f8 rd f10 f11 f12 n f14 lf wd ho ro pa rs E) sz)) 1 6 (va_A (OWl o ko ov a k LP N L f1 f2 f3 f4 f5 f6 f7 f8 rd f10 f11 f12 n f14 lf wd ho ro pa rs E) sz) := by
  refine cx_ofT (cc := cL_flush) (maxL := 5) (ret := some .int) (hh := [(0, 10, 13, 27)]) (by decide) rfl (Nat.le_of_ble_eq_true rfl) ?_
  intro p e s m below meth c ls hx hb hr hts hown hlocks hml hTab hl hB
  have hta : ∀ w ∈ AW, w.before [.ref (a 0), .int p0, .int p1, .ref o].toArray s = true := fun w h => hts w (List.mem_cons_of_mem _ h)
  have hl : lv_has ls 5 [(0, .ref (a 0)), (1, .int p0), (2, .int p1), (3, .ref o)] := hl
  have hown : s.vm.findClass RL = some m.cls := hown
  obtain ⟨⟨⟨rfl, ⟨hP, hK, hN⟩, hD0⟩, hXW, hXZ⟩, hNc⟩ := hB
  have hD := hD0.self (sz := s.heap.size)
  generalize hAe : va_A (OWl o ko ov a k LP N L f1 f2 f3 f4 f5 f6 f7 f8 rd f10 f11 f12 n f14 lf wd ho ro pa rs E) s.heap.size = A at hD hXZ ⊢
  have hA : ∀ q : Nat, s.heap.size ≤ q → A q := fun q h => by rw [← hAe]; exact Or.inr h
  have hS : va_S A s.heap s.heap [] := va_S.rf
  refine lv_aload_n hx hb dL_flush_0 rfl (lv_at hl 3 rfl) ?_
  refine lv_iconst (v := 0) hx hb dL_flush_1 (by decide) ?_
  refine lv_aload_n hx hb dL_flush_2 rfl (lv_at hl 0 rfl) ?_
  refine lv_iload_n hx hb dL_flush_3 rfl (lv_at hl 1 rfl) ?_
  refine lv_iload_n hx hb dL_flush_4 rfl (lv_at hl 2 rfl) ?_
  have hPc := va_P.part (cx := (CWx a k N L f1 f2 f3 f4 f5 f6 f7 f8 rd f10 f11 f12 n f14 lf wd ho ro pa rs)) hP [1, 2, 3, 4, 5, 6, 7, 8, 9] rfl
  have hDc := va_D.part (cx := (CWx a k N L f1 f2 f3 f4 f5 f6 f7 f8 rd f10 f11 f12 n f14 lf wd ho ro pa rs)) hD [1, 2, 3, 4, 5, 6, 7, 8, 9] (by decide) rfl
  have hKc := hK.sub (tys' := [(k 0, .long), (k 1, .int), (k 2, .int), (k 3, .object "PageRows$Entry"), (k 4, .int)]) [1, 2, 3, 4, 5] rfl
  have hFc := va_freeP (cx := (CWx a k N L f1 f2 f3 f4 f5 f6 f7 f8 rd f10 f11 f12 n f14 lf wd ho ro pa rs)) hD hS hA [1, 2, 3, 4, 5, 6, 7, 8, 9] rfl
  refine vx_calli (vx_runV (As := [.int p0, .int p1]) (rest := [.int (0 : Int32), .ref o]) ⟨hx, hb, hml, hown, hta⟩ (c_X4_flush l hl9 dC dI a k LP N L f1 f2 f3 f4 f5 f6 f7 f8 rd f10 f11 f12 n f14 lf wd ho ro pa rs E s.heap.size p0 p1 hn hN32 hrow) (cwV 2 hta (gV aw_468 aw_469 aw_470 aw_38 aw_471) rfl rfl rfl (by decide +kernel) ⟨Nat.le_of_ble_eq_true rfl, Nat.le_of_ble_eq_true rfl⟩) (cx_preVX hKc hPc hN (va_recv hKc hPc (ci := 4) (q0 := 0) rfl rfl) hDc hXW (cx_xz hXZ hS hFc)) rfl rfl hl.1 rfl (lv_room (Nat.le_of_ble_eq_true rfl)) dL_flush_5 ⟨Nat.le_of_ble_eq_true rfl, Nat.le_of_ble_eq_true rfl⟩) hS (fun q _ h => hFc q h) hFc (fun q _ h => hFc q h) (fun E9 ce q9 u t9 H1 locs ht hvm hw hB hz1 hk1 hS hce hcv hcl => ?_) (fun r9 u t9 H1 locs ht hvm hw hB hz1 hk1 hS => ?_)
  · obtain ⟨rfl, hP1, hK1, hD1⟩ := hB
    rw [ht] at hP1
    obtain ⟨hP, hD⟩ := va_joinP (wr := [(o, .inl (ko, 1, .inr (.inl ov)))]) (rx := (CWx a k N L f1 f2 f3 f4 f5 f6 f7 f8 rd f10 f11 f12 n f14 lf wd ho ro pa rs)) (pl1 := va_pl LP (CEf E)) hP hD [1, 2, 3, 4, 5, 6, 7, 8, 9] [0] rfl rfl (by decide) (by decide) hk1 hFc hP1 hD1
    clear hFc hz1 hk1 hK1 hD1 hP1 hPc hDc hKc ht hvm
    generalize H1 = H at hP hS hce ⊢
    have hP : va_P (dC, dI) vwCl (OWl o ko ov a k LP N L f1 f2 f3 f4 f5 f6 f7 f8 rd f10 f11 f12 n f14 lf wd ho ro pa rs E) H := hP
    have hD : va_D A (OWl o ko ov a k LP N L f1 f2 f3 f4 f5 f6 f7 f8 rd f10 f11 f12 n f14 lf wd ho ro pa rs E) := hD
    obtain rfl := thr_flush hw
    refine vx_catch (own := RL) (name := IAE) (E := excN 1) hown [] ⟨0, 10, 13, 27⟩ [] (by rw [hTab]; rfl) (fun z hz => nomatch hz) (by decide) (by decide) (hta _ aw_321) (va_Nw.use rfl hXW.2.1) hce hcv hcl ?_
    refine W.eq (g2 := F0 m 13 ls [.ref q9]) rfl ?_
    refine lv_astore (lv' := [(4, .ref q9), (0, .ref (a 0)), (1, .int p0), (2, .int p1), (3, .ref o)]) hx hb dL_flush_13 hl (by decide) rfl (fun ls hl => ?_)
    refine lv_iconst (v := 1) hx hb dL_flush_15 (by decide) ?_
    exact W.iret (v := (1 : Int32)) hx hb hr (fun t ht hW => ⟨⟨(1 : Int32), (ov, n, rs), rfl, (by unfold mL_flush; rewrite [← hw]; rfl), by rw [ht]; exact hP, va_K.moved hW.alike hK, hD⟩, hS.F ht⟩) hS.2.2 dL_flush_16
  · obtain ⟨n', rs'⟩ := u
    obtain ⟨hP1, hK1, hD1⟩ := hB
    rw [ht] at hP1
    obtain ⟨hP, hD⟩ := va_joinP (wr := [(o, .inl (ko, 1, .inr (.inl ov)))]) (rx := (CWx a k N L f1 f2 f3 f4 f5 f6 f7 f8 rd f10 f11 f12 n' f14 lf wd ho ro pa rs')) (pl1 := va_pl LP (CEf E)) hP hD [1, 2, 3, 4, 5, 6, 7, 8, 9] [0] rfl rfl (by decide) (by decide) hk1 hFc hP1 hD1
    clear hFc hz1 hk1 hK1 hD1 hP1 hPc hDc hKc ht hvm
    generalize H1 = H at hP hS ⊢
    have hP : va_P (dC, dI) vwCl (OWl o ko ov a k LP N L f1 f2 f3 f4 f5 f6 f7 f8 rd f10 f11 f12 n' f14 lf wd ho ro pa rs' E) H := hP
    have hD : va_D A (OWl o ko ov a k LP N L f1 f2 f3 f4 f5 f6 f7 f8 rd f10 f11 f12 n' f14 lf wd ho ro pa rs' E) := hD
    refine lv_i2l (v := r9.toInt64) hx hb dL_flush_8 rfl ?_
    refine va_last hx hb hK hP hD hS 0 0 rfl rfl (show vp_in (nI 0) 1 from vp_in_nI (by decide) (by decide)) dL_flush_9 (fun H locs hP hD hS => ?_)
    rw [show ((0 : Int32)).toNatClampNeg = 0 from rfl] at hP hD
    have hP : va_P (dC, dI) vwCl (OWl o ko (vp_updL ov 0 r9.toInt64) a k LP N L f1 f2 f3 f4 f5 f6 f7 f8 rd f10 f11 f12 n' f14 lf wd ho ro pa rs' E) H := hP
    have hD : va_D A (OWl o ko (vp_updL ov 0 r9.toInt64) a k LP N L f1 f2 f3 f4 f5 f6 f7 f8 rd f10 f11 f12 n' f14 lf wd ho ro pa rs' E) := hD
    refine lv_goto (tgt := 17) hx hb dL_flush_10 (by decide) ?_
    refine lv_iconst (v := 0) hx hb dL_flush_17 (by decide) ?_
    exact W.iret (v := (0 : Int32)) hx hb hr (fun t ht hW => ⟨⟨(0 : Int32), (vp_updL ov 0 r9.toInt64, n', rs'), rfl, (by unfold mL_flush; rewrite [← hw]; rfl), by rw [ht]; exact hP, va_K.moved hW.alike hK, hD⟩, hS.F ht⟩) hS.2.2 dL_flush_18
def mL_kept (ov : Nat → Int64) (n : Nat) (rs : Nat → Option Nat) (E : Nat → Nat → Int32) (p0 : Int32) (p1 : Int32) : Int32 × (Nat → Int64) :=
  match mX4_kept n rs E p0 p1 with
  | .inl _ => (1, ov)
  | .inr r => (0, vp_updL ov 0 (r.toInt64))
theorem thr_kept {n : Nat} {rs : Nat → Option Nat} {E : Nat → Nat → Int32} {p0 : Int32} {p1 : Int32} {u : Nat} (h : (.inl u : Nat ⊕ Int32) = mX4_kept n rs E p0 p1) : u = 0 := by
  unfold mX4_kept at h
  revert h
  repeat' split
  all_goals (intro h; first | (cases h; rfl) | (cases h))
set_option maxHeartbeats 4000000 in
set_option maxRecDepth 100000 in
theorem c_L_kept (l : Launch) (hl9 : l.stackTraces = false) (dC : Nat → ClassId) (dI : Nat → Nat → Nat) (o : Nat) (ko : ClassId) (ov : Nat → Int64) (a : Nat → Nat) (k : Nat → ClassId) (LP : List Nat) (N : Nat) (L : Nat) (f1 f2 f3 f4 f5 f6 f7 f8 : Int32) (rd : Nat) (f10 f11 f12 : Int32) (n : Nat) (f14 : Int32) (lf : Int64) (wd : Nat → Int64) (ho ro pa : Nat → Int32) (rs : Nat → Option Nat) (E : Nat → Nat → Int32) (sz : Nat) (p0 : Int32) (p1 : Int32) (hn : n ≤ N) (hN32 : N ≤ 32) (hrow : ∀ i, i < N → rs i = some (rowA rs i) ∧ rowA rs i ∈ LP) : Met l yL_kept (wL_kept :: AW) ({ frames := 7, cells := 1, slots := 6, locals := 113 }) (va_Pc [.ref (a 0), .int p0, .int p1, .ref o] (CPrL dC dI (OWl o ko ov a k LP N L f1 f2 f3 f4 f5 f6 f7 f8 rd f10 f11 f12 n f14 lf wd ho ro pa rs E) ((ko, .long) :: [(k 0, .long), (k 1, .int), (k 2, .int), (k 3, .object "PageRows$Entry"), (k 4, .int)]) sz)) (va_Qi (fun (r : Int32) (u : (Nat → Int64)) => (r, u) = mL_kept ov n rs E p0 p1) (fun (u : (Nat → Int64)) (t : State) => match u with | ov' => va_P (dC, dI) vwCl (OWl o ko ov' a k LP N L f1 f2 f3 f4 f5 f6 f7 f8 rd f10 f11 f12 n f14 lf wd ho ro pa rs E) t.heap ∧ va_K (dC, dI) vwCl ((ko, .long) :: [(k 0, .long), (k 1, .int), (k 2, .int), (k 3, .object "PageRows$Entry"), (k 4, .int)]) t ∧ va_D (va_A (OWl o ko ov a k LP N L f1 f2 f3 f4 f5 f6 f7 f8 rd f10 f11 f12 n f14 lf wd ho ro pa rs E) sz) (OWl o ko ov' a k LP N L f1 f2 f3 f4 f5 f6 f7 f8 rd f10 f11 f12 n f14 lf wd ho ro pa rs E)) (va_A (OWl o ko ov a k LP N L f1 f2 f3 f4 f5 f6 f7 f8 rd f10 f11 f12 n f14 lf wd ho ro pa rs E) sz)) 1 6 (va_A (OWl o ko ov a k LP N L f1 f2 f3 f4 f5 f6 f7 f8 rd f10 f11 f12 n f14 lf wd ho ro pa rs E) sz) := by
  refine cx_ofT (cc := cL_kept) (maxL := 5) (ret := some .int) (hh := [(0, 10, 13, 13)]) (by decide) rfl (Nat.le_of_ble_eq_true rfl) ?_
  intro p e s m below meth c ls hx hb hr hts hown hlocks hml hTab hl hB
  have hta : ∀ w ∈ AW, w.before [.ref (a 0), .int p0, .int p1, .ref o].toArray s = true := fun w h => hts w (List.mem_cons_of_mem _ h)
  have hl : lv_has ls 5 [(0, .ref (a 0)), (1, .int p0), (2, .int p1), (3, .ref o)] := hl
  have hown : s.vm.findClass RL = some m.cls := hown
  obtain ⟨⟨⟨rfl, ⟨hP, hK, hN⟩, hD0⟩, hXW, hXZ⟩, hNc⟩ := hB
  have hD := hD0.self (sz := s.heap.size)
  generalize hAe : va_A (OWl o ko ov a k LP N L f1 f2 f3 f4 f5 f6 f7 f8 rd f10 f11 f12 n f14 lf wd ho ro pa rs E) s.heap.size = A at hD hXZ ⊢
  have hA : ∀ q : Nat, s.heap.size ≤ q → A q := fun q h => by rw [← hAe]; exact Or.inr h
  have hS : va_S A s.heap s.heap [] := va_S.rf
  refine lv_aload_n hx hb dL_kept_0 rfl (lv_at hl 3 rfl) ?_
  refine lv_iconst (v := 0) hx hb dL_kept_1 (by decide) ?_
  refine lv_aload_n hx hb dL_kept_2 rfl (lv_at hl 0 rfl) ?_
  refine lv_iload_n hx hb dL_kept_3 rfl (lv_at hl 1 rfl) ?_
  refine lv_iload_n hx hb dL_kept_4 rfl (lv_at hl 2 rfl) ?_
  have hPc := va_P.part (cx := (CWx a k N L f1 f2 f3 f4 f5 f6 f7 f8 rd f10 f11 f12 n f14 lf wd ho ro pa rs)) hP [1, 2, 3, 4, 5, 6, 7, 8, 9] rfl
  have hDc := va_D.part (cx := (CWx a k N L f1 f2 f3 f4 f5 f6 f7 f8 rd f10 f11 f12 n f14 lf wd ho ro pa rs)) hD [1, 2, 3, 4, 5, 6, 7, 8, 9] (by decide) rfl
  have hKc := hK.sub (tys' := [(k 0, .long), (k 1, .int), (k 2, .int), (k 3, .object "PageRows$Entry"), (k 4, .int)]) [1, 2, 3, 4, 5] rfl
  have hFc := va_freeP (cx := (CWx a k N L f1 f2 f3 f4 f5 f6 f7 f8 rd f10 f11 f12 n f14 lf wd ho ro pa rs)) hD hS hA [1, 2, 3, 4, 5, 6, 7, 8, 9] rfl
  refine vx_calli (vx_runV (As := [.int p0, .int p1]) (rest := [.int (0 : Int32), .ref o]) ⟨hx, hb, hml, hown, hta⟩ (c_X4_kept l hl9 dC dI a k LP N L f1 f2 f3 f4 f5 f6 f7 f8 rd f10 f11 f12 n f14 lf wd ho ro pa rs E s.heap.size p0 p1 hn hN32 hrow) (cwV 2 hta (gV aw_483 aw_484 aw_485 aw_38 aw_486) rfl rfl rfl (by decide +kernel) ⟨Nat.le_of_ble_eq_true rfl, Nat.le_of_ble_eq_true rfl⟩) (cx_preVX hKc hPc hN (va_recv hKc hPc (ci := 4) (q0 := 0) rfl rfl) hDc hXW (cx_xz hXZ hS hFc)) rfl rfl hl.1 rfl (lv_room (Nat.le_of_ble_eq_true rfl)) dL_kept_5 ⟨Nat.le_of_ble_eq_true rfl, Nat.le_of_ble_eq_true rfl⟩) hS (fun q _ h => hFc q h) hFc (fun q _ h => hFc q h) (fun E9 ce q9 u t9 H1 locs ht hvm hw hB hz1 hk1 hS hce hcv hcl => ?_) (fun r9 u t9 H1 locs ht hvm hw hB hz1 hk1 hS => ?_)
  · obtain ⟨rfl, hP1, hK1, hD1⟩ := hB
    rw [ht] at hP1
    obtain ⟨hP, hD⟩ := va_joinP (wr := [(o, .inl (ko, 1, .inr (.inl ov)))]) (rx := (CWx a k N L f1 f2 f3 f4 f5 f6 f7 f8 rd f10 f11 f12 n f14 lf wd ho ro pa rs)) (pl1 := va_pl LP (CEf E)) hP hD [1, 2, 3, 4, 5, 6, 7, 8, 9] [0] rfl rfl (by decide) (by decide) hk1 hFc hP1 hD1
    clear hFc hz1 hk1 hK1 hD1 hP1 hPc hDc hKc ht hvm
    generalize H1 = H at hP hS hce ⊢
    have hP : va_P (dC, dI) vwCl (OWl o ko ov a k LP N L f1 f2 f3 f4 f5 f6 f7 f8 rd f10 f11 f12 n f14 lf wd ho ro pa rs E) H := hP
    have hD : va_D A (OWl o ko ov a k LP N L f1 f2 f3 f4 f5 f6 f7 f8 rd f10 f11 f12 n f14 lf wd ho ro pa rs E) := hD
    obtain rfl := thr_kept hw
    refine vx_catch (own := RL) (name := IOE) (E := excN 0) hown [] ⟨0, 10, 13, 13⟩ [] (by rw [hTab]; rfl) (fun z hz => nomatch hz) (by decide) (by decide) (hta _ aw_231) (va_Nw.use rfl hXW.1) hce hcv hcl ?_
    refine W.eq (g2 := F0 m 13 ls [.ref q9]) rfl ?_
    refine lv_astore (lv' := [(4, .ref q9), (0, .ref (a 0)), (1, .int p0), (2, .int p1), (3, .ref o)]) hx hb dL_kept_13 hl (by decide) rfl (fun ls hl => ?_)
    refine lv_iconst (v := 1) hx hb dL_kept_15 (by decide) ?_
    exact W.iret (v := (1 : Int32)) hx hb hr (fun t ht hW => ⟨⟨(1 : Int32), ov, rfl, (by unfold mL_kept; rewrite [← hw]; rfl), by rw [ht]; exact hP, va_K.moved hW.alike hK, hD⟩, hS.F ht⟩) hS.2.2 dL_kept_16
  · obtain ⟨hP1, hK1, hD1⟩ := hB
    rw [ht] at hP1
    obtain ⟨hP, hD⟩ := va_joinP (wr := [(o, .inl (ko, 1, .inr (.inl ov)))]) (rx := (CWx a k N L f1 f2 f3 f4 f5 f6 f7 f8 rd f10 f11 f12 n f14 lf wd ho ro pa rs)) (pl1 := va_pl LP (CEf E)) hP hD [1, 2, 3, 4, 5, 6, 7, 8, 9] [0] rfl rfl (by decide) (by decide) hk1 hFc hP1 hD1
    clear hFc hz1 hk1 hK1 hD1 hP1 hPc hDc hKc ht hvm
    generalize H1 = H at hP hS ⊢
    have hP : va_P (dC, dI) vwCl (OWl o ko ov a k LP N L f1 f2 f3 f4 f5 f6 f7 f8 rd f10 f11 f12 n f14 lf wd ho ro pa rs E) H := hP
    have hD : va_D A (OWl o ko ov a k LP N L f1 f2 f3 f4 f5 f6 f7 f8 rd f10 f11 f12 n f14 lf wd ho ro pa rs E) := hD
    refine lv_i2l (v := r9.toInt64) hx hb dL_kept_8 rfl ?_
    refine va_last hx hb hK hP hD hS 0 0 rfl rfl (show vp_in (nI 0) 1 from vp_in_nI (by decide) (by decide)) dL_kept_9 (fun H locs hP hD hS => ?_)
    rw [show ((0 : Int32)).toNatClampNeg = 0 from rfl] at hP hD
    have hP : va_P (dC, dI) vwCl (OWl o ko (vp_updL ov 0 r9.toInt64) a k LP N L f1 f2 f3 f4 f5 f6 f7 f8 rd f10 f11 f12 n f14 lf wd ho ro pa rs E) H := hP
    have hD : va_D A (OWl o ko (vp_updL ov 0 r9.toInt64) a k LP N L f1 f2 f3 f4 f5 f6 f7 f8 rd f10 f11 f12 n f14 lf wd ho ro pa rs E) := hD
    refine lv_goto (tgt := 17) hx hb dL_kept_10 (by decide) ?_
    refine lv_iconst (v := 0) hx hb dL_kept_17 (by decide) ?_
    exact W.iret (v := (0 : Int32)) hx hb hr (fun t ht hW => ⟨⟨(0 : Int32), vp_updL ov 0 r9.toInt64, rfl, (by unfold mL_kept; rewrite [← hw]; rfl), by rw [ht]; exact hP, va_K.moved hW.alike hK, hD⟩, hS.F ht⟩) hS.2.2 dL_kept_18
def mL_stale (ov : Nat → Int64) (L : Nat) (f1 : Int32) (f8 : Int32) (rd : Nat) (f10 : Int32) (f11 : Int32) (f12 : Int32) (n : Nat) (lf : Int64) (wd : Nat → Int64) (ho : Nat → Int32) (ro : Nat → Int32) (pa : Nat → Int32) (rs : Nat → Option Nat) (E : Nat → Nat → Int32) (p0 : Int32) : Int32 × (Nat → Int64) × Nat × Int64 × Int32 × Int32 × Int32 × (Nat → Int32) :=
  match mStale p0 (mStaL L f1 f8 wd ho ro rs E p0 n 0 0 rd lf f10 f11 f12 pa) with
  | .inl _ => (1, ov, rd, lf, f10, f11, f12, pa)
  | .inr (r, rd', lf', f10', f11', f12', pa') => (0, vp_updL ov 0 (r.toInt64), rd', lf', f10', f11', f12', pa')
theorem thr_stale {L : Nat} {f1 : Int32} {f8 : Int32} {rd : Nat} {f10 : Int32} {f11 : Int32} {f12 : Int32} {n : Nat} {lf : Int64} {wd : Nat → Int64} {ho : Nat → Int32} {ro : Nat → Int32} {pa : Nat → Int32} {rs : Nat → Option Nat} {E : Nat → Nat → Int32} {p0 : Int32} {u : Nat} (h : (.inl u : Nat ⊕ (Int32 × Nat × Int64 × Int32 × Int32 × Int32 × (Nat → Int32))) = mStale p0 (mStaL L f1 f8 wd ho ro rs E p0 n 0 0 rd lf f10 f11 f12 pa)) : u = 1 := by
  unfold mStale at h
  revert h
  repeat' split
  all_goals (intro h; first | (cases h; rfl) | (cases h))
set_option maxHeartbeats 4000000 in
set_option maxRecDepth 100000 in
theorem c_L_stale (l : Launch) (hl9 : l.stackTraces = false) (dC : Nat → ClassId) (dI : Nat → Nat → Nat) (o : Nat) (ko : ClassId) (ov : Nat → Int64) (a : Nat → Nat) (k : Nat → ClassId) (LP : List Nat) (N : Nat) (L : Nat) (f1 f2 f3 f4 f5 f6 f7 f8 : Int32) (rd : Nat) (f10 f11 f12 : Int32) (n : Nat) (f14 : Int32) (lf : Int64) (wd : Nat → Int64) (ho ro pa : Nat → Int32) (rs : Nat → Option Nat) (E : Nat → Nat → Int32) (sz : Nat) (p0 : Int32) (hL1 : 1 ≤ L) (hL4 : L ≤ 4) (hho : HOK ho) (hf1 : vp_in f1 4) (hro : ¬ ro f1.toNatClampNeg < 0) (hn : n ≤ N) (hN32 : N ≤ 32) (hrow : ∀ i, i < N → rs i = some (rowA rs i) ∧ rowA rs i ∈ LP) : Met l yL_stale (wL_stale :: AW) ({ frames := 7, cells := 1, slots := 6, locals := 120 }) (va_Pc [.ref (a 0), .int p0, .ref o] (CPrL dC dI (OWl o ko ov a k LP N L f1 f2 f3 f4 f5 f6 f7 f8 rd f10 f11 f12 n f14 lf wd ho ro pa rs E) ((ko, .long) :: [(k 0, .long), (k 1, .int), (k 2, .int), (k 3, .object "PageRows$Entry"), (k 4, .int)]) sz)) (va_Qi (fun (r : Int32) (u : (Nat → Int64) × Nat × Int64 × Int32 × Int32 × Int32 × (Nat → Int32)) => (r, u) = mL_stale ov L f1 f8 rd f10 f11 f12 n lf wd ho ro pa rs E p0) (fun (u : (Nat → Int64) × Nat × Int64 × Int32 × Int32 × Int32 × (Nat → Int32)) (t : State) => match u with | (ov', rd', lf', f10', f11', f12', pa') => va_P (dC, dI) vwCl (OWl o ko ov' a k LP N L f1 f2 f3 f4 f5 f6 f7 f8 rd' f10' f11' f12' n f14 lf' wd ho ro pa' rs E) t.heap ∧ va_K (dC, dI) vwCl ((ko, .long) :: [(k 0, .long), (k 1, .int), (k 2, .int), (k 3, .object "PageRows$Entry"), (k 4, .int)]) t ∧ va_D (va_A (OWl o ko ov a k LP N L f1 f2 f3 f4 f5 f6 f7 f8 rd f10 f11 f12 n f14 lf wd ho ro pa rs E) sz) (OWl o ko ov' a k LP N L f1 f2 f3 f4 f5 f6 f7 f8 rd' f10' f11' f12' n f14 lf' wd ho ro pa' rs E)) (va_A (OWl o ko ov a k LP N L f1 f2 f3 f4 f5 f6 f7 f8 rd f10 f11 f12 n f14 lf wd ho ro pa rs E) sz)) 1 6 (va_A (OWl o ko ov a k LP N L f1 f2 f3 f4 f5 f6 f7 f8 rd f10 f11 f12 n f14 lf wd ho ro pa rs E) sz) := by
  refine cx_ofT (cc := cL_stale) (maxL := 4) (ret := some .int) (hh := [(0, 9, 12, 27)]) (by decide) rfl (Nat.le_of_ble_eq_true rfl) ?_
  intro p e s m below meth c ls hx hb hr hts hown hlocks hml hTab hl hB
  have hta : ∀ w ∈ AW, w.before [.ref (a 0), .int p0, .ref o].toArray s = true := fun w h => hts w (List.mem_cons_of_mem _ h)
  have hl : lv_has ls 4 [(0, .ref (a 0)), (1, .int p0), (2, .ref o)] := hl
  have hown : s.vm.findClass RL = some m.cls := hown
  obtain ⟨⟨⟨rfl, ⟨hP, hK, hN⟩, hD0⟩, hXW, hXZ⟩, hNc⟩ := hB
  have hD := hD0.self (sz := s.heap.size)
  generalize hAe : va_A (OWl o ko ov a k LP N L f1 f2 f3 f4 f5 f6 f7 f8 rd f10 f11 f12 n f14 lf wd ho ro pa rs E) s.heap.size = A at hD hXZ ⊢
  have hA : ∀ q : Nat, s.heap.size ≤ q → A q := fun q h => by rw [← hAe]; exact Or.inr h
  have hS : va_S A s.heap s.heap [] := va_S.rf
  refine lv_aload_n hx hb dL_stale_0 rfl (lv_at hl 2 rfl) ?_
  refine lv_iconst (v := 0) hx hb dL_stale_1 (by decide) ?_
  refine lv_aload_n hx hb dL_stale_2 rfl (lv_at hl 0 rfl) ?_
  refine lv_iload_n hx hb dL_stale_3 rfl (lv_at hl 1 rfl) ?_
  have hPc := va_P.part (cx := (CWx a k N L f1 f2 f3 f4 f5 f6 f7 f8 rd f10 f11 f12 n f14 lf wd ho ro pa rs)) hP [1, 2, 3, 4, 5, 6, 7, 8, 9] rfl
  have hDc := va_D.part (cx := (CWx a k N L f1 f2 f3 f4 f5 f6 f7 f8 rd f10 f11 f12 n f14 lf wd ho ro pa rs)) hD [1, 2, 3, 4, 5, 6, 7, 8, 9] (by decide) rfl
  have hKc := hK.sub (tys' := [(k 0, .long), (k 1, .int), (k 2, .int), (k 3, .object "PageRows$Entry"), (k 4, .int)]) [1, 2, 3, 4, 5] rfl
  have hFc := va_freeP (cx := (CWx a k N L f1 f2 f3 f4 f5 f6 f7 f8 rd f10 f11 f12 n f14 lf wd ho ro pa rs)) hD hS hA [1, 2, 3, 4, 5, 6, 7, 8, 9] rfl
  refine vx_calli (vx_runV (As := [.int p0]) (rest := [.int (0 : Int32), .ref o]) ⟨hx, hb, hml, hown, hta⟩ (c_X4_stale l hl9 dC dI a k LP N L f1 f2 f3 f4 f5 f6 f7 f8 rd f10 f11 f12 n f14 lf wd ho ro pa rs E s.heap.size p0 hL1 hL4 hho hf1 hro hn hN32 hrow) (cwV 1 hta (gV aw_496 aw_497 aw_498 aw_38 aw_499) rfl rfl rfl (by decide +kernel) ⟨Nat.le_of_ble_eq_true rfl, Nat.le_of_ble_eq_true rfl⟩) (cx_preVX hKc hPc hN (va_recv hKc hPc (ci := 4) (q0 := 0) rfl rfl) hDc hXW (cx_xz hXZ hS hFc)) rfl rfl hl.1 rfl (lv_room (Nat.le_of_ble_eq_true rfl)) dL_stale_4 ⟨Nat.le_of_ble_eq_true rfl, Nat.le_of_ble_eq_true rfl⟩) hS (fun q _ h => hFc q h) hFc (fun q _ h => hFc q h) (fun E9 ce q9 u t9 H1 locs ht hvm hw hB hz1 hk1 hS hce hcv hcl => ?_) (fun r9 u t9 H1 locs ht hvm hw hB hz1 hk1 hS => ?_)
  · obtain ⟨rfl, hP1, hK1, hD1⟩ := hB
    rw [ht] at hP1
    obtain ⟨hP, hD⟩ := va_joinP (wr := [(o, .inl (ko, 1, .inr (.inl ov)))]) (rx := (CWx a k N L f1 f2 f3 f4 f5 f6 f7 f8 rd f10 f11 f12 n f14 lf wd ho ro pa rs)) (pl1 := va_pl LP (CEf E)) hP hD [1, 2, 3, 4, 5, 6, 7, 8, 9] [0] rfl rfl (by decide) (by decide) hk1 hFc hP1 hD1
    clear hFc hz1 hk1 hK1 hD1 hP1 hPc hDc hKc ht hvm
    generalize H1 = H at hP hS hce ⊢
    have hP : va_P (dC, dI) vwCl (OWl o ko ov a k LP N L f1 f2 f3 f4 f5 f6 f7 f8 rd f10 f11 f12 n f14 lf wd ho ro pa rs E) H := hP
    have hD : va_D A (OWl o ko ov a k LP N L f1 f2 f3 f4 f5 f6 f7 f8 rd f10 f11 f12 n f14 lf wd ho ro pa rs E) := hD
    obtain rfl := thr_stale hw
    refine vx_catch (own := RL) (name := IAE) (E := excN 1) hown [] ⟨0, 9, 12, 27⟩ [] (by rw [hTab]; rfl) (fun z hz => nomatch hz) (by decide) (by decide) (hta _ aw_321) (va_Nw.use rfl hXW.2.1) hce hcv hcl ?_
    refine W.eq (g2 := F0 m 12 ls [.ref q9]) rfl ?_
    refine lv_astore_n (lv' := [(3, .ref q9), (0, .ref (a 0)), (1, .int p0), (2, .ref o)]) hx hb dL_stale_12 rfl hl (by decide) rfl (fun ls hl => ?_)
    refine lv_iconst (v := 1) hx hb dL_stale_13 (by decide) ?_
    exact W.iret (v := (1 : Int32)) hx hb hr (fun t ht hW => ⟨⟨(1 : Int32), (ov, rd, lf, f10, f11, f12, pa), rfl, (by unfold mL_stale; rewrite [← hw]; rfl), by rw [ht]; exact hP, va_K.moved hW.alike hK, hD⟩, hS.F ht⟩) hS.2.2 dL_stale_14
  · obtain ⟨rd', lf', f10', f11', f12', pa'⟩ := u
    obtain ⟨hP1, hK1, hD1⟩ := hB
    rw [ht] at hP1
    obtain ⟨hP, hD⟩ := va_joinP (wr := [(o, .inl (ko, 1, .inr (.inl ov)))]) (rx := (CWx a k N L f1 f2 f3 f4 f5 f6 f7 f8 rd' f10' f11' f12' n f14 lf' wd ho ro pa' rs)) (pl1 := va_pl LP (CEf E)) hP hD [1, 2, 3, 4, 5, 6, 7, 8, 9] [0] rfl rfl (by decide) (by decide) hk1 hFc hP1 hD1
    clear hFc hz1 hk1 hK1 hD1 hP1 hPc hDc hKc ht hvm
    generalize H1 = H at hP hS ⊢
    have hP : va_P (dC, dI) vwCl (OWl o ko ov a k LP N L f1 f2 f3 f4 f5 f6 f7 f8 rd' f10' f11' f12' n f14 lf' wd ho ro pa' rs E) H := hP
    have hD : va_D A (OWl o ko ov a k LP N L f1 f2 f3 f4 f5 f6 f7 f8 rd' f10' f11' f12' n f14 lf' wd ho ro pa' rs E) := hD
    refine lv_i2l (v := r9.toInt64) hx hb dL_stale_7 rfl ?_
    refine va_last hx hb hK hP hD hS 0 0 rfl rfl (show vp_in (nI 0) 1 from vp_in_nI (by decide) (by decide)) dL_stale_8 (fun H locs hP hD hS => ?_)
    rw [show ((0 : Int32)).toNatClampNeg = 0 from rfl] at hP hD
    have hP : va_P (dC, dI) vwCl (OWl o ko (vp_updL ov 0 r9.toInt64) a k LP N L f1 f2 f3 f4 f5 f6 f7 f8 rd' f10' f11' f12' n f14 lf' wd ho ro pa' rs E) H := hP
    have hD : va_D A (OWl o ko (vp_updL ov 0 r9.toInt64) a k LP N L f1 f2 f3 f4 f5 f6 f7 f8 rd' f10' f11' f12' n f14 lf' wd ho ro pa' rs E) := hD
    refine lv_goto (tgt := 15) hx hb dL_stale_9 (by decide) ?_
    refine lv_iconst (v := 0) hx hb dL_stale_15 (by decide) ?_
    exact W.iret (v := (0 : Int32)) hx hb hr (fun t ht hW => ⟨⟨(0 : Int32), (vp_updL ov 0 r9.toInt64, rd', lf', f10', f11', f12', pa'), rfl, (by unfold mL_stale; rewrite [← hw]; rfl), by rw [ht]; exact hP, va_K.moved hW.alike hK, hD⟩, hS.F ht⟩) hS.2.2 dL_stale_16
