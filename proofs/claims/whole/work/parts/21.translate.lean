theorem read_ok {f8 : Int32} {rd : Nat} {lf : Int64} {wd : Nat → Int64} {ho pa : Nat → Int32} {p0 p1 r : Int32} {rd' : Nat} {lf' : Int64} {pa' : Nat → Int32} (h : (r, rd', lf', pa') = mX3_read f8 rd lf wd ho pa p0 p1) (h0 : ¬ mX2_homeOf f8 ho p0 = (-1 : Int32) → ¬ mX2_homeOf f8 ho p0 < 0) (hpa : ∀ i, i < rd → vp_in (pa i) 4096) : ∀ i, i < rd' → vp_in (pa' i) 4096 := by
  unfold mX3_read at h
  have key : ∀ at9 : Int32, vp_in at9 4096 → ∀ i, i < rd + 1 → vp_in (upd pa rd at9 i) 4096 := by
    intro at9 h9 i hi
    by_cases e : i = rd
    · subst e
      rw [pk_us]
      exact h9
    · rw [pk_un e]
      exact hpa i (by omega)
  split at h
  · cases h; exact hpa
  · rename_i c1
    split at h
    · rename_i c2
      split at h
      · cases h; exact key _ (cx_wordin (h0 c1) c2)
      · cases h; exact key _ (cx_wordin (h0 c1) c2)
    · cases h; exact hpa
theorem folT_ok {L : Nat} {f8 : Int32} {ho : Nat → Int32} {p1 p2 : Int32} {b : Nat} {fr : Int32} {rd : Nat} {lf : Int64} {pa : Nat → Int32} {r : Int32} {rd' : Nat} {lf' : Int64} {x y z : Int32} {pa' : Nat → Int32} (h : (r, rd', lf', x, y, z, pa') = mFolT L f8 ho p1 p2 b fr rd lf pa) : rd' = rd ∧ pa' = pa := by
  unfold mFolT at h
  split at h
  · split at h
    · cases h; exact ⟨rfl, rfl⟩
    · cases h; exact ⟨rfl, rfl⟩
  · cases h; exact ⟨rfl, rfl⟩
theorem folL_ok {L : Nat} {f8 : Int32} {wd : Nat → Int64} {ho : Nat → Int32} {p1 p2 f10 : Int32} (hho : HOK ho) : ∀ (b : Nat) (fr : Int32) (rd : Nat) (lf : Int64) (pa : Nat → Int32) {r : Int32} {rd' : Nat} {lf' : Int64} {x y z : Int32} {pa' : Nat → Int32}, ¬ fr < 0 → rd + b < 4 → (∀ i, i < rd → vp_in (pa i) 4096) → (r, rd', lf', x, y, z, pa') = mFolL L f8 wd ho p1 p2 f10 b fr rd lf pa → rd' ≤ 4 ∧ ∀ i, i < rd' → vp_in (pa' i) 4096 := by
  intro b
  induction b with
  | zero =>
    intro fr rd lf pa r rd' lf' x y z pa' hfr hrd hpa h
    unfold mFolL at h
    generalize hq : mX3_read f8 rd lf wd ho pa fr (p1 >>> (mX4_bitsBelow (nI 0) &&& 31)) = q at h
    obtain ⟨r1, rd1, lf1, pa1⟩ := q
    have e1 := read_rd hq.symm
    have e2 := read_ok hq.symm (home_ok hho hfr) hpa
    dsimp only at h
    split at h
    · obtain ⟨rfl, rfl⟩ := folT_ok h
      exact ⟨by omega, e2⟩
    · cases h
      exact ⟨by omega, e2⟩
  | succ b ih =>
    intro fr rd lf pa r rd' lf' x y z pa' hfr hrd hpa h
    unfold mFolL at h
    generalize hq : mX3_read f8 rd lf wd ho pa fr (p1 >>> (mX4_bitsBelow (nI (b + 1)) &&& 31)) = q at h
    obtain ⟨r1, rd1, lf1, pa1⟩ := q
    have e1 := read_rd hq.symm
    have e2 := read_ok hq.symm (home_ok hho hfr) hpa
    dsimp only at h
    split at h
    · split at h
      · exact ih _ _ _ _ (frameOf_nn _) (by omega) e2 h
      · obtain ⟨rfl, rfl⟩ := folT_ok h
        exact ⟨by omega, e2⟩
    · cases h
      exact ⟨by omega, e2⟩
theorem fol_ok {L : Nat} {f8 : Int32} {wd : Nat → Int64} {ho : Nat → Int32} {f10 : Int32} {lf : Int64} {pa : Nat → Int32} {p0 p1 p2 r : Int32} {rd' : Nat} {lf' : Int64} {x y z : Int32} {pa' : Nat → Int32} (h : (r, rd', lf', x, y, z, pa') = mFol L f8 wd ho f10 lf pa p0 p1 p2) (hL1 : 1 ≤ L) (hL4 : L ≤ 4) (hho : HOK ho) (hp0 : ¬ p0 < 0) : rd' ≤ 4 ∧ ∀ i, i < rd' → vp_in (pa' i) 4096 := by
  unfold mFol at h
  split at h
  · exact folL_ok hho (L - 1) p0 0 lf pa hp0 (by omega) (fun i hi => absurd hi (by omega)) h
  · cases h
    exact ⟨by omega, fun i hi => absurd hi (by omega)⟩
/-- PageRows.isStale -/
def mX4_isStale (L : Nat) (f1 : Int32) (f8 : Int32) (f10 : Int32) (lf : Int64) (wd : Nat → Int64) (ho : Nat → Int32) (ro : Nat → Int32) (pa : Nat → Int32) (E : Nat → Nat → Int32) (y0 : Nat) (p1 : Int32) : Int32 × Nat × Int64 × Int32 × Int32 × Int32 × (Nat → Int32) :=
  if (mX4_allows (E 4 y0) p1) = 0 then
    match mFol L f8 wd ho f10 lf pa (ro f1.toNatClampNeg) ((E 2 y0) <<< ((mX4_bitsBelow (E 1 y0)) &&& 31)) p1 with
    | (r_7, rd_7, lf_7, f10_7, f11_7, f12_7, pa_7) =>
      if (-1 : Int32) = f12_7 then
        ((0 : Int32), rd_7, lf_7, f10_7, f11_7, f12_7, pa_7)
      else
        ((1 : Int32), rd_7, lf_7, f10_7, f11_7, f12_7, pa_7)
  else
    match mFol L f8 wd ho f10 lf pa (ro f1.toNatClampNeg) ((E 2 y0) <<< ((mX4_bitsBelow (E 1 y0)) &&& 31)) p1 with
    | (r_12, rd_12, lf_12, f10_12, f11_12, f12_12, pa_12) =>
      if (mX2_reach f8 ho (E 3 y0) (E 1 y0) ((E 2 y0) <<< ((mX4_bitsBelow (E 1 y0)) &&& 31))) = f12_12 then
        ((0 : Int32), rd_12, lf_12, f10_12, f11_12, f12_12, pa_12)
      else
        ((1 : Int32), rd_12, lf_12, f10_12, f11_12, f12_12, pa_12)
set_option maxHeartbeats 4000000 in
set_option maxRecDepth 100000 in
theorem c_X4_isStale (l : Launch) (dC : Nat → ClassId) (dI : Nat → Nat → Nat) (a : Nat → Nat) (k : Nat → ClassId) (LP : List Nat) (N : Nat) (L : Nat) (f1 f2 f3 f4 f5 f6 f7 f8 : Int32) (rd : Nat) (f10 f11 f12 : Int32) (n : Nat) (f14 : Int32) (lf : Int64) (wd : Nat → Int64) (ho ro pa : Nat → Int32) (rs : Nat → Option Nat) (E : Nat → Nat → Int32) (y0 : Nat) (hy0 : y0 ∈ LP) (sz : Nat) (p1 : Int32) (hL1 : 1 ≤ L) (hL4 : L ≤ 4) (hho : HOK ho) (hf1 : vp_in f1 4) (hro : ¬ ro f1.toNatClampNeg < 0) : Met l yX4_isStale (wX4_isStale :: AW) ({ frames := 3, cells := 0, slots := 0, locals := 72 }) (va_Pc [.ref (a 0), .ref y0, .int p1] (CPrQ dC dI (CWl a k LP N L f1 f2 f3 f4 f5 f6 f7 f8 rd f10 f11 f12 n f14 lf wd ho ro pa rs E) [(k 0, .long), (k 1, .int), (k 2, .int), (k 3, .object "PageRows$Entry"), (k 4, .int)] sz)) (va_Qi (fun (r : Int32) (u : Nat × Int64 × Int32 × Int32 × Int32 × (Nat → Int32)) => (r, u) = mX4_isStale L f1 f8 f10 lf wd ho ro pa E y0 p1) (fun (u : Nat × Int64 × Int32 × Int32 × Int32 × (Nat → Int32)) (t : State) => match u with | (rd', lf', f10', f11', f12', pa') => va_P (dC, dI) vwCl (CWl a k LP N L f1 f2 f3 f4 f5 f6 f7 f8 rd' f10' f11' f12' n f14 lf' wd ho ro pa' rs E) t.heap ∧ va_K (dC, dI) vwCl [(k 0, .long), (k 1, .int), (k 2, .int), (k 3, .object "PageRows$Entry"), (k 4, .int)] t ∧ va_D (va_A (CWl a k LP N L f1 f2 f3 f4 f5 f6 f7 f8 rd f10 f11 f12 n f14 lf wd ho ro pa rs E) sz) (CWl a k LP N L f1 f2 f3 f4 f5 f6 f7 f8 rd' f10' f11' f12' n f14 lf' wd ho ro pa' rs E)) (va_A (CWl a k LP N L f1 f2 f3 f4 f5 f6 f7 f8 rd f10 f11 f12 n f14 lf wd ho ro pa rs E) sz)) 0 0 (va_A (CWl a k LP N L f1 f2 f3 f4 f5 f6 f7 f8 rd f10 f11 f12 n f14 lf wd ho ro pa rs E) sz) := by
  refine cx_of (cc := cX4_isStale) (maxL := 5) (ret := some .boolean) (by decide) rfl (Nat.le_of_ble_eq_true rfl) ?_
  intro p e s m below meth c ls hx hb hr hts hown hlocks hml hnm hl hB
  have hta : ∀ w ∈ AW, w.before [.ref (a 0), .ref y0, .int p1].toArray s = true := fun w h => hts w (List.mem_cons_of_mem _ h)
  have hl : lv_has ls 5 [(0, .ref (a 0)), (1, .ref y0), (2, .int p1)] := hl
  have hown : s.vm.findClass RX4 = some m.cls := hown
  obtain ⟨rfl, ⟨hP, hK, hN⟩, hD0⟩ := hB
  have hD := hD0.self (sz := s.heap.size)
  generalize hAe : va_A (CWl a k LP N L f1 f2 f3 f4 f5 f6 f7 f8 rd f10 f11 f12 n f14 lf wd ho ro pa rs E) s.heap.size = A at hD ⊢
  have hA : ∀ q : Nat, s.heap.size ≤ q → A q := fun q h => by rw [← hAe]; exact Or.inr h
  have hS : va_S A s.heap s.heap [] := va_S.rf
  refine lv_aload_n hx hb dX4_isStale_0 rfl (lv_at hl 1 rfl) ?_
  obtain ⟨k_1, hk_1⟩ := va_pl_get (X := (CWx a k N L f1 f2 f3 f4 f5 f6 f7 f8 rd f10 f11 f12 n f14 lf wd ho ro pa rs)) (f := (CEf E)) hy0
  refine va_getN (D := (dC, dI)) (ci := 1) (v := .int (E 2 y0)) (C := RX1) (T := TX1) (N := 6) hx hb hta inA_X1 hown hK hP k_1 hk_1 rfl 2 (by decide) (hN.nf 14 rfl) (fun _ h9 => h9) rfl dX4_isStale_1 ?_
  refine lv_aload_n hx hb dX4_isStale_4 rfl (lv_at hl 1 rfl) ?_
  obtain ⟨k_2, hk_2⟩ := va_pl_get (X := (CWx a k N L f1 f2 f3 f4 f5 f6 f7 f8 rd f10 f11 f12 n f14 lf wd ho ro pa rs)) (f := (CEf E)) hy0
  refine va_getN (D := (dC, dI)) (ci := 1) (v := .int (E 1 y0)) (C := RX1) (T := TX1) (N := 6) hx hb hta inA_X1 hown hK hP k_2 hk_2 rfl 1 (by decide) (hN.nf 12 rfl) (fun _ h9 => h9) rfl dX4_isStale_5 ?_
  refine cx_callSi (va_runS (As := [.int (E 1 y0)]) (rest := [.int (E 2 y0)]) ⟨hx, hb, hml, hown, hta⟩ (c_X4_bitsBelow l (E 1 y0)) (va_cwS 1 hta (gS aw_504 aw_371 aw_38 aw_372) rfl rfl rfl (by decide +kernel) ⟨Nat.le_of_ble_eq_true rfl, Nat.le_of_ble_eq_true rfl⟩) cx_pre0 rfl rfl hl.1 rfl (lv_room (Nat.le_of_ble_eq_true rfl)) dX4_isStale_8 ⟨Nat.le_of_ble_eq_true rfl, Nat.le_of_ble_eq_true rfl⟩) (fun r hw_3 => ?_)
  subst hw_3
  refine lv_ishl hx hb dX4_isStale_11 ?_
  refine lv_istore_n (lv' := [(3, .int ((E 2 y0) <<< ((mX4_bitsBelow (E 1 y0)) &&& 31))), (0, .ref (a 0)), (1, .ref y0), (2, .int p1)]) hx hb dX4_isStale_12 rfl hl (by decide) rfl (fun ls hl => ?_)
  refine lv_aload_n hx hb dX4_isStale_13 rfl (lv_at hl 2 rfl) ?_
  obtain ⟨k_4, hk_4⟩ := va_pl_get (X := (CWx a k N L f1 f2 f3 f4 f5 f6 f7 f8 rd f10 f11 f12 n f14 lf wd ho ro pa rs)) (f := (CEf E)) hy0
  refine va_getN (D := (dC, dI)) (ci := 1) (v := .int (E 4 y0)) (C := RX1) (T := TX1) (N := 6) hx hb hta inA_X1 hown hK hP k_4 hk_4 rfl 4 (by decide) (hN.nf 18 rfl) (fun _ h9 => h9) rfl dX4_isStale_14 ?_
  refine lv_iload_n hx hb dX4_isStale_17 rfl (lv_at hl 3 rfl) ?_
  refine cx_callSi (va_runS (As := [.int (E 4 y0), .int p1]) (rest := []) ⟨hx, hb, hml, hown, hta⟩ (c_X4_allows l (E 4 y0) p1) (va_cwS 2 hta (gS aw_379 aw_380 aw_38 aw_381) rfl rfl rfl (by decide +kernel) ⟨Nat.le_of_ble_eq_true rfl, Nat.le_of_ble_eq_true rfl⟩) cx_pre0 rfl rfl hl.1 rfl (lv_room (Nat.le_of_ble_eq_true rfl)) dX4_isStale_18 ⟨Nat.le_of_ble_eq_true rfl, Nat.le_of_ble_eq_true rfl⟩) (fun r hw_5 => ?_)
  subst hw_5
  refine lv_if_eq (tgt := 43) hx hb dX4_isStale_21 (by decide) (fun c_21_5 => ?_) (fun c_21_5 => ?_)
  · refine lv_iconst (v := (-1)) hx hb dX4_isStale_43 (by decide) ?_
    refine lv_istore (lv' := [(4, .int (-1 : Int32)), (3, .int ((E 2 y0) <<< ((mX4_bitsBelow (E 1 y0)) &&& 31))), (0, .ref (a 0)), (1, .ref y0), (2, .int p1)]) hx hb dX4_isStale_44 hl (by decide) rfl (fun ls hl => ?_)
    refine lv_aload_n hx hb dX4_isStale_46 rfl (lv_at hl 2 rfl) ?_
    refine va_get (D := (dC, dI)) (ci := 4) (v := .ref (a 4)) (C := RX4) (T := TX4) (N := 12) hx hb hta inA_X4 hown hK hP 0 rfl rfl 2 (by decide) (hta _ aw_174) (fun _ h9 => h9) rfl dX4_isStale_47 ?_
    refine lv_aload_n hx hb dX4_isStale_50 rfl (lv_at hl 2 rfl) ?_
    refine va_get (D := (dC, dI)) (ci := 4) (v := .ref (a 8)) (C := RX4) (T := TX4) (N := 12) hx hb hta inA_X4 hown hK hP 0 rfl rfl 4 (by decide) (hta _ aw_176) (fun _ h9 => h9) rfl dX4_isStale_51 ?_
    refine lv_aload_n hx hb dX4_isStale_54 rfl (lv_at hl 2 rfl) ?_
    refine va_get (D := (dC, dI)) (ci := 4) (v := .int f1) (C := RX4) (T := TX4) (N := 12) hx hb hta inA_X4 hown hK hP 0 rfl rfl 5 (by decide) (hta _ aw_177) (fun _ h9 => h9) rfl dX4_isStale_55 ?_
    refine va_iald hx hb hK hP 8 4 rfl rfl hf1 dX4_isStale_58 ?_
    refine lv_iload_n hx hb dX4_isStale_59 rfl (lv_at hl 1 rfl) ?_
    refine lv_iload_n hx hb dX4_isStale_60 rfl (lv_at hl 4 rfl) ?_
    have hFc : ∀ q, va_A (CWl a k LP N L f1 f2 f3 f4 f5 f6 f7 f8 rd f10 f11 f12 n f14 lf wd ho ro pa rs E) s.heap.size q → A q := cx_free hD hS hA
    refine va_calli (va_runVN (As := [.int (ro f1.toNatClampNeg), .int ((E 2 y0) <<< ((mX4_bitsBelow (E 1 y0)) &&& 31)), .int p1]) (rest := []) ⟨hx, hb, hml, hown, hta⟩ (c_X3_follow l dC dI a k LP N L f1 f2 f3 f4 f5 f6 f7 f8 rd f10 f11 f12 n f14 lf wd ho ro pa rs E s.heap.size (ro f1.toNatClampNeg) ((E 2 y0) <<< ((mX4_bitsBelow (E 1 y0)) &&& 31)) p1 hL1 hL4 hho hro) ⟨va_cnB 3 hta (gC aw_389) rfl rfl rfl (hN.nm 7 rfl) (hta _ aw_40) (by decide +kernel) ⟨Nat.le_of_ble_eq_true rfl, Nat.le_of_ble_eq_true rfl⟩, (hta _ aw_388), (hta _ aw_4)⟩ (cx_preVQ hK hP hN (va_recv hK hP (ci := 3) (q0 := 4) rfl rfl) hD) rfl rfl hl.1 rfl (lv_room (Nat.le_of_ble_eq_true rfl)) dX4_isStale_61 ⟨Nat.le_of_ble_eq_true rfl, Nat.le_of_ble_eq_true rfl⟩) hS (fun q _ h => hFc q h) hFc (fun r_7 u t9 H1 locs ht hvm hw_7 hB hz1 hk1 hS => ?_)
    obtain ⟨rd_7, lf_7, f10_7, f11_7, f12_7, pa_7⟩ := u
    obtain ⟨hP, hK1, hD1⟩ := hB
    rw [ht] at hP
    have hD := hD1.weaken (fun _ _ _ h => hFc _ h)
    clear hFc hz1 hk1 hK1 hD1 ht hvm
    generalize H1 = H at hP hS ⊢
    have hP : va_P (dC, dI) vwCl (CWl a k LP N L f1 f2 f3 f4 f5 f6 f7 f8 rd_7 f10_7 f11_7 f12_7 n f14 lf_7 wd ho ro pa_7 rs E) H := hP
    have hD : va_D A (CWl a k LP N L f1 f2 f3 f4 f5 f6 f7 f8 rd_7 f10_7 f11_7 f12_7 n f14 lf_7 wd ho ro pa_7 rs E) := hD
    obtain ⟨hrd4_7, hpa_7⟩ := fol_ok hw_7 hL1 hL4 hho hro
    refine lv_pop hx hb dX4_isStale_64 rfl ?_
    refine lv_iload hx hb dX4_isStale_65 (lv_at hl 0 rfl) ?_
    refine lv_aload_n hx hb dX4_isStale_67 rfl (lv_at hl 2 rfl) ?_
    refine va_get (D := (dC, dI)) (ci := 4) (v := .ref (a 4)) (C := RX4) (T := TX4) (N := 12) hx hb hta inA_X4 hown hK hP 0 rfl rfl 2 (by decide) (hta _ aw_174) (fun _ h9 => h9) rfl dX4_isStale_68 ?_
    refine va_getN (D := (dC, dI)) (ci := 3) (v := .int f12_7) (C := RX3) (T := TX3) (N := 8) hx hb hta inA_X3 hown hK hP 4 rfl rfl 7 (by decide) (hN.nf 8 rfl) (fun _ h9 => h9) rfl dX4_isStale_71 ?_
    refine lv_icmp_eq (tgt := 81) hx hb dX4_isStale_74 (by decide) (fun c_74_7 => ?_) (fun c_74_7 => ?_)
    · refine lv_iconst (v := 0) hx hb dX4_isStale_81 (by decide) ?_
      exact W.zret (ty := .boolean) (v := (0 : Int32)) hx hb hr rfl (fun t ht hW => ⟨⟨(0 : Int32), (rd_7, lf_7, f10_7, f11_7, f12_7, pa_7), rfl, (by unfold mX4_isStale; rewrite [if_pos c_21_5]; rewrite [← hw_7]; (try dsimp only); rewrite [if_pos c_74_7]; (first | done | rfl)), by rw [ht]; exact hP, va_K.moved hW.alike hK, hD⟩, hS.F ht⟩) hS.2.2 dX4_isStale_82
    · refine lv_iconst (v := 1) hx hb dX4_isStale_77 (by decide) ?_
      refine lv_goto (tgt := 82) hx hb dX4_isStale_78 (by decide) ?_
      exact W.zret (ty := .boolean) (v := (1 : Int32)) hx hb hr rfl (fun t ht hW => ⟨⟨(1 : Int32), (rd_7, lf_7, f10_7, f11_7, f12_7, pa_7), rfl, (by unfold mX4_isStale; rewrite [if_pos c_21_5]; rewrite [← hw_7]; (try dsimp only); rewrite [if_neg c_74_7]; (first | done | rfl)), by rw [ht]; exact hP, va_K.moved hW.alike hK, hD⟩, hS.F ht⟩) hS.2.2 dX4_isStale_82
  · refine lv_aload_n hx hb dX4_isStale_24 rfl (lv_at hl 1 rfl) ?_
    refine va_get (D := (dC, dI)) (ci := 4) (v := .ref (a 1)) (C := RX4) (T := TX4) (N := 12) hx hb hta inA_X4 hown hK hP 0 rfl rfl 1 (by decide) (hta _ aw_173) (fun _ h9 => h9) rfl dX4_isStale_25 ?_
    refine lv_aload_n hx hb dX4_isStale_28 rfl (lv_at hl 2 rfl) ?_
    obtain ⟨k_9, hk_9⟩ := va_pl_get (X := (CWx a k N L f1 f2 f3 f4 f5 f6 f7 f8 rd f10 f11 f12 n f14 lf wd ho ro pa rs)) (f := (CEf E)) hy0
    refine va_getN (D := (dC, dI)) (ci := 1) (v := .int (E 3 y0)) (C := RX1) (T := TX1) (N := 6) hx hb hta inA_X1 hown hK hP k_9 hk_9 rfl 3 (by decide) (hN.nf 16 rfl) (fun _ h9 => h9) rfl dX4_isStale_29 ?_
    refine lv_aload_n hx hb dX4_isStale_32 rfl (lv_at hl 2 rfl) ?_
    obtain ⟨k_10, hk_10⟩ := va_pl_get (X := (CWx a k N L f1 f2 f3 f4 f5 f6 f7 f8 rd f10 f11 f12 n f14 lf wd ho ro pa rs)) (f := (CEf E)) hy0
    refine va_getN (D := (dC, dI)) (ci := 1) (v := .int (E 1 y0)) (C := RX1) (T := TX1) (N := 6) hx hb hta inA_X1 hown hK hP k_10 hk_10 rfl 1 (by decide) (hN.nf 12 rfl) (fun _ h9 => h9) rfl dX4_isStale_33 ?_
    refine lv_iload_n hx hb dX4_isStale_36 rfl (lv_at hl 0 rfl) ?_
    refine cx_callSi (va_runVN (As := [.int (E 3 y0), .int (E 1 y0), .int ((E 2 y0) <<< ((mX4_bitsBelow (E 1 y0)) &&& 31))]) (rest := []) ⟨hx, hb, hml, hown, hta⟩ (c_X2_reach l dC dI a k LP N L f1 f2 f3 f4 f5 f6 f7 f8 rd f10 f11 f12 n f14 lf wd ho ro pa rs E (E 3 y0) (E 1 y0) ((E 2 y0) <<< ((mX4_bitsBelow (E 1 y0)) &&& 31))) ⟨va_cnB 3 hta (gC aw_423) rfl rfl rfl (hN.nm 21 rfl) (hta _ aw_39) (by decide +kernel) ⟨Nat.le_of_ble_eq_true rfl, Nat.le_of_ble_eq_true rfl⟩, (hta _ aw_422), (hta _ aw_10)⟩ (cx_preVS hK hP hN (va_recv hK hP (ci := 2) (q0 := 1) rfl rfl)) rfl rfl hl.1 rfl (lv_room (Nat.le_of_ble_eq_true rfl)) dX4_isStale_37 ⟨Nat.le_of_ble_eq_true rfl, Nat.le_of_ble_eq_true rfl⟩) (fun r hw_11 => ?_)
    subst hw_11
    refine lv_goto (tgt := 44) hx hb dX4_isStale_40 (by decide) ?_
    refine lv_istore (lv' := [(4, .int (mX2_reach f8 ho (E 3 y0) (E 1 y0) ((E 2 y0) <<< ((mX4_bitsBelow (E 1 y0)) &&& 31)))), (3, .int ((E 2 y0) <<< ((mX4_bitsBelow (E 1 y0)) &&& 31))), (0, .ref (a 0)), (1, .ref y0), (2, .int p1)]) hx hb dX4_isStale_44 hl (by decide) rfl (fun ls hl => ?_)
    refine lv_aload_n hx hb dX4_isStale_46 rfl (lv_at hl 2 rfl) ?_
    refine va_get (D := (dC, dI)) (ci := 4) (v := .ref (a 4)) (C := RX4) (T := TX4) (N := 12) hx hb hta inA_X4 hown hK hP 0 rfl rfl 2 (by decide) (hta _ aw_174) (fun _ h9 => h9) rfl dX4_isStale_47 ?_
    refine lv_aload_n hx hb dX4_isStale_50 rfl (lv_at hl 2 rfl) ?_
    refine va_get (D := (dC, dI)) (ci := 4) (v := .ref (a 8)) (C := RX4) (T := TX4) (N := 12) hx hb hta inA_X4 hown hK hP 0 rfl rfl 4 (by decide) (hta _ aw_176) (fun _ h9 => h9) rfl dX4_isStale_51 ?_
    refine lv_aload_n hx hb dX4_isStale_54 rfl (lv_at hl 2 rfl) ?_
    refine va_get (D := (dC, dI)) (ci := 4) (v := .int f1) (C := RX4) (T := TX4) (N := 12) hx hb hta inA_X4 hown hK hP 0 rfl rfl 5 (by decide) (hta _ aw_177) (fun _ h9 => h9) rfl dX4_isStale_55 ?_
    refine va_iald hx hb hK hP 8 4 rfl rfl hf1 dX4_isStale_58 ?_
    refine lv_iload_n hx hb dX4_isStale_59 rfl (lv_at hl 1 rfl) ?_
    refine lv_iload_n hx hb dX4_isStale_60 rfl (lv_at hl 4 rfl) ?_
    have hFc : ∀ q, va_A (CWl a k LP N L f1 f2 f3 f4 f5 f6 f7 f8 rd f10 f11 f12 n f14 lf wd ho ro pa rs E) s.heap.size q → A q := cx_free hD hS hA
    refine va_calli (va_runVN (As := [.int (ro f1.toNatClampNeg), .int ((E 2 y0) <<< ((mX4_bitsBelow (E 1 y0)) &&& 31)), .int p1]) (rest := []) ⟨hx, hb, hml, hown, hta⟩ (c_X3_follow l dC dI a k LP N L f1 f2 f3 f4 f5 f6 f7 f8 rd f10 f11 f12 n f14 lf wd ho ro pa rs E s.heap.size (ro f1.toNatClampNeg) ((E 2 y0) <<< ((mX4_bitsBelow (E 1 y0)) &&& 31)) p1 hL1 hL4 hho hro) ⟨va_cnB 3 hta (gC aw_389) rfl rfl rfl (hN.nm 7 rfl) (hta _ aw_40) (by decide +kernel) ⟨Nat.le_of_ble_eq_true rfl, Nat.le_of_ble_eq_true rfl⟩, (hta _ aw_388), (hta _ aw_4)⟩ (cx_preVQ hK hP hN (va_recv hK hP (ci := 3) (q0 := 4) rfl rfl) hD) rfl rfl hl.1 rfl (lv_room (Nat.le_of_ble_eq_true rfl)) dX4_isStale_61 ⟨Nat.le_of_ble_eq_true rfl, Nat.le_of_ble_eq_true rfl⟩) hS (fun q _ h => hFc q h) hFc (fun r_12 u t9 H1 locs ht hvm hw_12 hB hz1 hk1 hS => ?_)
    obtain ⟨rd_12, lf_12, f10_12, f11_12, f12_12, pa_12⟩ := u
    obtain ⟨hP, hK1, hD1⟩ := hB
    rw [ht] at hP
    have hD := hD1.weaken (fun _ _ _ h => hFc _ h)
    clear hFc hz1 hk1 hK1 hD1 ht hvm
    generalize H1 = H at hP hS ⊢
    have hP : va_P (dC, dI) vwCl (CWl a k LP N L f1 f2 f3 f4 f5 f6 f7 f8 rd_12 f10_12 f11_12 f12_12 n f14 lf_12 wd ho ro pa_12 rs E) H := hP
    have hD : va_D A (CWl a k LP N L f1 f2 f3 f4 f5 f6 f7 f8 rd_12 f10_12 f11_12 f12_12 n f14 lf_12 wd ho ro pa_12 rs E) := hD
    obtain ⟨hrd4_12, hpa_12⟩ := fol_ok hw_12 hL1 hL4 hho hro
    refine lv_pop hx hb dX4_isStale_64 rfl ?_
    refine lv_iload hx hb dX4_isStale_65 (lv_at hl 0 rfl) ?_
    refine lv_aload_n hx hb dX4_isStale_67 rfl (lv_at hl 2 rfl) ?_
    refine va_get (D := (dC, dI)) (ci := 4) (v := .ref (a 4)) (C := RX4) (T := TX4) (N := 12) hx hb hta inA_X4 hown hK hP 0 rfl rfl 2 (by decide) (hta _ aw_174) (fun _ h9 => h9) rfl dX4_isStale_68 ?_
    refine va_getN (D := (dC, dI)) (ci := 3) (v := .int f12_12) (C := RX3) (T := TX3) (N := 8) hx hb hta inA_X3 hown hK hP 4 rfl rfl 7 (by decide) (hN.nf 8 rfl) (fun _ h9 => h9) rfl dX4_isStale_71 ?_
    refine lv_icmp_eq (tgt := 81) hx hb dX4_isStale_74 (by decide) (fun c_74_12 => ?_) (fun c_74_12 => ?_)
    · refine lv_iconst (v := 0) hx hb dX4_isStale_81 (by decide) ?_
      exact W.zret (ty := .boolean) (v := (0 : Int32)) hx hb hr rfl (fun t ht hW => ⟨⟨(0 : Int32), (rd_12, lf_12, f10_12, f11_12, f12_12, pa_12), rfl, (by unfold mX4_isStale; rewrite [if_neg c_21_5]; rewrite [← hw_12]; (try dsimp only); rewrite [if_pos c_74_12]; (first | done | rfl)), by rw [ht]; exact hP, va_K.moved hW.alike hK, hD⟩, hS.F ht⟩) hS.2.2 dX4_isStale_82
    · refine lv_iconst (v := 1) hx hb dX4_isStale_77 (by decide) ?_
      refine lv_goto (tgt := 82) hx hb dX4_isStale_78 (by decide) ?_
      exact W.zret (ty := .boolean) (v := (1 : Int32)) hx hb hr rfl (fun t ht hW => ⟨⟨(1 : Int32), (rd_12, lf_12, f10_12, f11_12, f12_12, pa_12), rfl, (by unfold mX4_isStale; rewrite [if_neg c_21_5]; rewrite [← hw_12]; (try dsimp only); rewrite [if_neg c_74_12]; (first | done | rfl)), by rw [ht]; exact hP, va_K.moved hW.alike hK, hD⟩, hS.F ht⟩) hS.2.2 dX4_isStale_82
/-- PageRows.translateByTables -/
def mX4_translateByTables (N : Nat) (L : Nat) (f1 : Int32) (f4 : Int32) (f6 : Int32) (f7 : Int32) (f8 : Int32) (f10 : Int32) (n : Nat) (f14 : Int32) (lf : Int64) (wd : Nat → Int64) (ho : Nat → Int32) (ro : Nat → Int32) (pa : Nat → Int32) (rs : Nat → Option Nat) (E : Nat → Nat → Int32) (p0 : Int32) (p1 : Int32) : Int32 × Int32 × Int32 × Int32 × Int32 × Int32 × Nat × Int32 × Int32 × Int32 × Nat × Int32 × Int64 × (Nat → Int64) × (Nat → Int32) × (Nat → Option Nat) × (Nat → Nat → Int32) :=
  match mFol L f8 wd ho f10 lf pa (ro f1.toNatClampNeg) p0 p1 with
  | (r_1, rd_1, lf_1, f10_1, f11_1, f12_1, pa_1) =>
    if r_1 = 0 then
      match mMark rd_1 lf_1 pa_1 (mX4_isWrite p1) (mMarkL pa_1 rd_1 0 wd) with
      | (wd_5, lf_5) =>
        match mX0_keep N f10_1 n f14 lf_5 rs E f1 p0 with
        | (n_6, f14_6, rs_6, E_6) =>
          match mX4_finish f7 r_1 f11_1 f12_1 with
          | (r_7, f2_7, f3_7, f7_7) =>
            (r_7, f2_7, f3_7, f4 + (nI rd_1), f6 + (1 : Int32), f7_7, rd_1, f10_1, f11_1, f12_1, n_6, f14_6, lf_5, wd_5, pa_1, rs_6, E_6)
    else
      match mX4_finish f7 r_1 f11_1 f12_1 with
      | (r_3, f2_3, f3_3, f7_3) =>
        (r_3, f2_3, f3_3, f4 + (nI rd_1), f6 + (1 : Int32), f7_3, rd_1, f10_1, f11_1, f12_1, n, f14, lf_1, wd, pa_1, rs, E)
set_option maxHeartbeats 4000000 in
set_option maxRecDepth 100000 in
theorem c_X4_translateByTables (l : Launch) (dC : Nat → ClassId) (dI : Nat → Nat → Nat) (a : Nat → Nat) (k : Nat → ClassId) (LP : List Nat) (N : Nat) (L : Nat) (f1 f2 f3 f4 f5 f6 f7 f8 : Int32) (rd : Nat) (f10 f11 f12 : Int32) (n : Nat) (f14 : Int32) (lf : Int64) (wd : Nat → Int64) (ho ro pa : Nat → Int32) (rs : Nat → Option Nat) (E : Nat → Nat → Int32)  (sz : Nat) (p0 : Int32) (p1 : Int32) (hL1 : 1 ≤ L) (hL4 : L ≤ 4) (hho : HOK ho) (hf1 : vp_in f1 4) (hro : ¬ ro f1.toNatClampNeg < 0) (hn : n ≤ N) (h0N : 0 < N) (hN32 : N ≤ 32) (hrow : ∀ i, i < N → rs i = some (rowA rs i) ∧ rowA rs i ∈ LP) : Met l yX4_translateByTables (wX4_translateByTables :: AW) ({ frames := 4, cells := 0, slots := 0, locals := 91 }) (va_Pc [.ref (a 0), .int p0, .int p1] (CPrQ dC dI (CWl a k LP N L f1 f2 f3 f4 f5 f6 f7 f8 rd f10 f11 f12 n f14 lf wd ho ro pa rs E) [(k 0, .long), (k 1, .int), (k 2, .int), (k 3, .object "PageRows$Entry"), (k 4, .int)] sz)) (va_Qi (fun (r : Int32) (u : Int32 × Int32 × Int32 × Int32 × Int32 × Nat × Int32 × Int32 × Int32 × Nat × Int32 × Int64 × (Nat → Int64) × (Nat → Int32) × (Nat → Option Nat) × (Nat → Nat → Int32)) => (r, u) = mX4_translateByTables N L f1 f4 f6 f7 f8 f10 n f14 lf wd ho ro pa rs E p0 p1) (fun (u : Int32 × Int32 × Int32 × Int32 × Int32 × Nat × Int32 × Int32 × Int32 × Nat × Int32 × Int64 × (Nat → Int64) × (Nat → Int32) × (Nat → Option Nat) × (Nat → Nat → Int32)) (t : State) => match u with | (f2', f3', f4', f6', f7', rd', f10', f11', f12', n', f14', lf', wd', pa', rs', E') => va_P (dC, dI) vwCl (CWl a k LP N L f1 f2' f3' f4' f5 f6' f7' f8 rd' f10' f11' f12' n' f14' lf' wd' ho ro pa' rs' E') t.heap ∧ va_K (dC, dI) vwCl [(k 0, .long), (k 1, .int), (k 2, .int), (k 3, .object "PageRows$Entry"), (k 4, .int)] t ∧ va_D (va_A (CWl a k LP N L f1 f2 f3 f4 f5 f6 f7 f8 rd f10 f11 f12 n f14 lf wd ho ro pa rs E) sz) (CWl a k LP N L f1 f2' f3' f4' f5 f6' f7' f8 rd' f10' f11' f12' n' f14' lf' wd' ho ro pa' rs' E')) (va_A (CWl a k LP N L f1 f2 f3 f4 f5 f6 f7 f8 rd f10 f11 f12 n f14 lf wd ho ro pa rs E) sz)) 0 0 (va_A (CWl a k LP N L f1 f2 f3 f4 f5 f6 f7 f8 rd f10 f11 f12 n f14 lf wd ho ro pa rs E) sz) := by
  refine cx_of (cc := cX4_translateByTables) (maxL := 4) (ret := some .int) (by decide) rfl (Nat.le_of_ble_eq_true rfl) ?_
  intro p e s m below meth c ls hx hb hr hts hown hlocks hml hnm hl hB
  have hta : ∀ w ∈ AW, w.before [.ref (a 0), .int p0, .int p1].toArray s = true := fun w h => hts w (List.mem_cons_of_mem _ h)
  have hl : lv_has ls 4 [(0, .ref (a 0)), (1, .int p0), (2, .int p1)] := hl
  have hown : s.vm.findClass RX4 = some m.cls := hown
  obtain ⟨rfl, ⟨hP, hK, hN⟩, hD0⟩ := hB
  have hD := hD0.self (sz := s.heap.size)
  generalize hAe : va_A (CWl a k LP N L f1 f2 f3 f4 f5 f6 f7 f8 rd f10 f11 f12 n f14 lf wd ho ro pa rs E) s.heap.size = A at hD ⊢
  have hA : ∀ q : Nat, s.heap.size ≤ q → A q := fun q h => by rw [← hAe]; exact Or.inr h
  have hS : va_S A s.heap s.heap [] := va_S.rf
  refine lv_aload_n hx hb dX4_translateByTables_0 rfl (lv_at hl 0 rfl) ?_
  refine lv_dup hx hb dX4_translateByTables_1 rfl ?_
  refine va_get (D := (dC, dI)) (ci := 4) (v := .int f6) (C := RX4) (T := TX4) (N := 12) hx hb hta inA_X4 hown hK hP 0 rfl rfl 10 (by decide) (hta _ aw_182) (fun _ h9 => h9) rfl dX4_translateByTables_2 ?_
  refine lv_iconst (v := 1) hx hb dX4_translateByTables_5 (by decide) ?_
  refine lv_iadd hx hb dX4_translateByTables_6 ?_
  refine va_put (D := (dC, dI)) (ci := 4) (v := .int (f6 + (1 : Int32))) (ty := .int) (C := RX4) (T := TX4) (N := 12) hx hb hta inA_X4 tyX4 tyX4_ok nmX4 hown hK hP hD hS 0 rfl rfl 10 (by decide) (hta _ aw_182) (fun _ h9 => h9) rfl (by decide +kernel) rfl rfl (Nat.le_of_ble_eq_true rfl) dX4_translateByTables_7 (fun H locs hP hD hS => ?_)
  have hP : va_P (dC, dI) vwCl (CWl a k LP N L f1 f2 f3 f4 f5 (f6 + (1 : Int32)) f7 f8 rd f10 f11 f12 n f14 lf wd ho ro pa rs E) H := hP
  have hD : va_D A (CWl a k LP N L f1 f2 f3 f4 f5 (f6 + (1 : Int32)) f7 f8 rd f10 f11 f12 n f14 lf wd ho ro pa rs E) := hD
  refine lv_aload_n hx hb dX4_translateByTables_10 rfl (lv_at hl 0 rfl) ?_
  refine va_get (D := (dC, dI)) (ci := 4) (v := .ref (a 4)) (C := RX4) (T := TX4) (N := 12) hx hb hta inA_X4 hown hK hP 0 rfl rfl 2 (by decide) (hta _ aw_174) (fun _ h9 => h9) rfl dX4_translateByTables_11 ?_
  refine lv_aload_n hx hb dX4_translateByTables_14 rfl (lv_at hl 0 rfl) ?_
  refine va_get (D := (dC, dI)) (ci := 4) (v := .ref (a 8)) (C := RX4) (T := TX4) (N := 12) hx hb hta inA_X4 hown hK hP 0 rfl rfl 4 (by decide) (hta _ aw_176) (fun _ h9 => h9) rfl dX4_translateByTables_15 ?_
  refine lv_aload_n hx hb dX4_translateByTables_18 rfl (lv_at hl 0 rfl) ?_
  refine va_get (D := (dC, dI)) (ci := 4) (v := .int f1) (C := RX4) (T := TX4) (N := 12) hx hb hta inA_X4 hown hK hP 0 rfl rfl 5 (by decide) (hta _ aw_177) (fun _ h9 => h9) rfl dX4_translateByTables_19 ?_
  refine va_iald hx hb hK hP 8 4 rfl rfl hf1 dX4_translateByTables_22 ?_
  refine lv_iload_n hx hb dX4_translateByTables_23 rfl (lv_at hl 1 rfl) ?_
  refine lv_iload_n hx hb dX4_translateByTables_24 rfl (lv_at hl 2 rfl) ?_
  have hFc : ∀ q, va_A (CWl a k LP N L f1 f2 f3 f4 f5 (f6 + (1 : Int32)) f7 f8 rd f10 f11 f12 n f14 lf wd ho ro pa rs E) H.size q → A q := cx_free hD hS hA
  refine va_calli (va_runVN (As := [.int (ro f1.toNatClampNeg), .int p0, .int p1]) (rest := []) ⟨hx, hb, hml, hown, hta⟩ (c_X3_follow l dC dI a k LP N L f1 f2 f3 f4 f5 (f6 + (1 : Int32)) f7 f8 rd f10 f11 f12 n f14 lf wd ho ro pa rs E H.size (ro f1.toNatClampNeg) p0 p1 hL1 hL4 hho hro) ⟨va_cnB 3 hta (gC aw_389) rfl rfl rfl (hN.nm 7 rfl) (hta _ aw_40) (by decide +kernel) ⟨Nat.le_of_ble_eq_true rfl, Nat.le_of_ble_eq_true rfl⟩, (hta _ aw_388), (hta _ aw_4)⟩ (cx_preVQ hK hP hN (va_recv hK hP (ci := 3) (q0 := 4) rfl rfl) hD) rfl rfl hl.1 rfl (lv_room (Nat.le_of_ble_eq_true rfl)) dX4_translateByTables_25 ⟨Nat.le_of_ble_eq_true rfl, Nat.le_of_ble_eq_true rfl⟩) hS (fun q _ h => hFc q h) hFc (fun r_1 u t9 H1 locs ht hvm hw_1 hB hz1 hk1 hS => ?_)
  obtain ⟨rd_1, lf_1, f10_1, f11_1, f12_1, pa_1⟩ := u
  obtain ⟨hP, hK1, hD1⟩ := hB
  rw [ht] at hP
  have hD := hD1.weaken (fun _ _ _ h => hFc _ h)
  clear hFc hz1 hk1 hK1 hD1 ht hvm
  generalize H1 = H at hP hS ⊢
  have hP : va_P (dC, dI) vwCl (CWl a k LP N L f1 f2 f3 f4 f5 (f6 + (1 : Int32)) f7 f8 rd_1 f10_1 f11_1 f12_1 n f14 lf_1 wd ho ro pa_1 rs E) H := hP
  have hD : va_D A (CWl a k LP N L f1 f2 f3 f4 f5 (f6 + (1 : Int32)) f7 f8 rd_1 f10_1 f11_1 f12_1 n f14 lf_1 wd ho ro pa_1 rs E) := hD
  obtain ⟨hrd4_1, hpa_1⟩ := fol_ok hw_1 hL1 hL4 hho hro
  refine lv_istore_n (lv' := [(3, .int r_1), (0, .ref (a 0)), (1, .int p0), (2, .int p1)]) hx hb dX4_translateByTables_28 rfl hl (by decide) rfl (fun ls hl => ?_)
  refine lv_aload_n hx hb dX4_translateByTables_29 rfl (lv_at hl 1 rfl) ?_
  refine lv_dup hx hb dX4_translateByTables_30 rfl ?_
  refine va_get (D := (dC, dI)) (ci := 4) (v := .int f4) (C := RX4) (T := TX4) (N := 12) hx hb hta inA_X4 hown hK hP 0 rfl rfl 8 (by decide) (hta _ aw_180) (fun _ h9 => h9) rfl dX4_translateByTables_31 ?_
  refine lv_aload_n hx hb dX4_translateByTables_34 rfl (lv_at hl 1 rfl) ?_
  refine va_get (D := (dC, dI)) (ci := 4) (v := .ref (a 4)) (C := RX4) (T := TX4) (N := 12) hx hb hta inA_X4 hown hK hP 0 rfl rfl 2 (by decide) (hta _ aw_174) (fun _ h9 => h9) rfl dX4_translateByTables_35 ?_
  refine va_getN (D := (dC, dI)) (ci := 3) (v := .int (nI rd_1)) (C := RX3) (T := TX3) (N := 8) hx hb hta inA_X3 hown hK hP 4 rfl rfl 3 (by decide) (hN.nf 4 rfl) (fun _ h9 => h9) rfl dX4_translateByTables_38 ?_
  refine lv_iadd hx hb dX4_translateByTables_41 ?_
  refine va_put (D := (dC, dI)) (ci := 4) (v := .int (f4 + (nI rd_1))) (ty := .int) (C := RX4) (T := TX4) (N := 12) hx hb hta inA_X4 tyX4 tyX4_ok nmX4 hown hK hP hD hS 0 rfl rfl 8 (by decide) (hta _ aw_180) (fun _ h9 => h9) rfl (by decide +kernel) rfl rfl (Nat.le_of_ble_eq_true rfl) dX4_translateByTables_42 (fun H locs hP hD hS => ?_)
  have hP : va_P (dC, dI) vwCl (CWl a k LP N L f1 f2 f3 (f4 + (nI rd_1)) f5 (f6 + (1 : Int32)) f7 f8 rd_1 f10_1 f11_1 f12_1 n f14 lf_1 wd ho ro pa_1 rs E) H := hP
  have hD : va_D A (CWl a k LP N L f1 f2 f3 (f4 + (nI rd_1)) f5 (f6 + (1 : Int32)) f7 f8 rd_1 f10_1 f11_1 f12_1 n f14 lf_1 wd ho ro pa_1 rs E) := hD
  refine lv_iload_n hx hb dX4_translateByTables_45 rfl (lv_at hl 0 rfl) ?_
  refine lv_if_ne (tgt := 76) hx hb dX4_translateByTables_46 (by decide) (fun c_46_1 => ?_) (fun c_46_1 => ?_)
  · refine lv_aload_n hx hb dX4_translateByTables_76 rfl (lv_at hl 1 rfl) ?_
    refine lv_iload_n hx hb dX4_translateByTables_77 rfl (lv_at hl 0 rfl) ?_
    refine lv_aload_n hx hb dX4_translateByTables_78 rfl (lv_at hl 1 rfl) ?_
    refine va_get (D := (dC, dI)) (ci := 4) (v := .ref (a 4)) (C := RX4) (T := TX4) (N := 12) hx hb hta inA_X4 hown hK hP 0 rfl rfl 2 (by decide) (hta _ aw_174) (fun _ h9 => h9) rfl dX4_translateByTables_79 ?_
    refine va_getN (D := (dC, dI)) (ci := 3) (v := .int f11_1) (C := RX3) (T := TX3) (N := 8) hx hb hta inA_X3 hown hK hP 4 rfl rfl 6 (by decide) (hN.nf 7 rfl) (fun _ h9 => h9) rfl dX4_translateByTables_82 ?_
    refine lv_aload_n hx hb dX4_translateByTables_85 rfl (lv_at hl 1 rfl) ?_
    refine va_get (D := (dC, dI)) (ci := 4) (v := .ref (a 4)) (C := RX4) (T := TX4) (N := 12) hx hb hta inA_X4 hown hK hP 0 rfl rfl 2 (by decide) (hta _ aw_174) (fun _ h9 => h9) rfl dX4_translateByTables_86 ?_
    refine va_getN (D := (dC, dI)) (ci := 3) (v := .int f12_1) (C := RX3) (T := TX3) (N := 8) hx hb hta inA_X3 hown hK hP 4 rfl rfl 7 (by decide) (hN.nf 8 rfl) (fun _ h9 => h9) rfl dX4_translateByTables_89 ?_
    have hFc : ∀ q, va_A (CWl a k LP N L f1 f2 f3 (f4 + (nI rd_1)) f5 (f6 + (1 : Int32)) f7 f8 rd_1 f10_1 f11_1 f12_1 n f14 lf_1 wd ho ro pa_1 rs E) H.size q → A q := cx_free hD hS hA
    refine va_calli (va_runV (As := [.int r_1, .int f11_1, .int f12_1]) (rest := []) ⟨hx, hb, hml, hown, hta⟩ (c_X4_finish l dC dI a k LP N L f1 f2 f3 (f4 + (nI rd_1)) f5 (f6 + (1 : Int32)) f7 f8 rd_1 f10_1 f11_1 f12_1 n f14 lf_1 wd ho ro pa_1 rs E H.size r_1 f11_1 f12_1) (cwV 3 hta (gV aw_448 aw_450 aw_15 aw_38 aw_451) rfl rfl rfl (by decide +kernel) ⟨Nat.le_of_ble_eq_true rfl, Nat.le_of_ble_eq_true rfl⟩) (cx_preVQ hK hP hN (va_recv hK hP (ci := 4) (q0 := 0) rfl rfl) hD) rfl rfl hl.1 rfl (lv_room (Nat.le_of_ble_eq_true rfl)) dX4_translateByTables_92 ⟨Nat.le_of_ble_eq_true rfl, Nat.le_of_ble_eq_true rfl⟩) hS (fun q _ h => hFc q h) hFc (fun r_3 u t9 H1 locs ht hvm hw_3 hB hz1 hk1 hS => ?_)
    obtain ⟨f2_3, f3_3, f7_3⟩ := u
    obtain ⟨hP, hK1, hD1⟩ := hB
    rw [ht] at hP
    have hD := hD1.weaken (fun _ _ _ h => hFc _ h)
    clear hFc hz1 hk1 hK1 hD1 ht hvm
    generalize H1 = H at hP hS ⊢
    have hP : va_P (dC, dI) vwCl (CWl a k LP N L f1 f2_3 f3_3 (f4 + (nI rd_1)) f5 (f6 + (1 : Int32)) f7_3 f8 rd_1 f10_1 f11_1 f12_1 n f14 lf_1 wd ho ro pa_1 rs E) H := hP
    have hD : va_D A (CWl a k LP N L f1 f2_3 f3_3 (f4 + (nI rd_1)) f5 (f6 + (1 : Int32)) f7_3 f8 rd_1 f10_1 f11_1 f12_1 n f14 lf_1 wd ho ro pa_1 rs E) := hD
    exact W.iret (v := r_3) hx hb hr (fun t ht hW => ⟨⟨r_3, (f2_3, f3_3, f4 + (nI rd_1), f6 + (1 : Int32), f7_3, rd_1, f10_1, f11_1, f12_1, n, f14, lf_1, wd, pa_1, rs, E), rfl, (by unfold mX4_translateByTables; rewrite [← hw_1]; (try dsimp only); rewrite [if_neg c_46_1]; rewrite [← hw_3]; (try dsimp only); (first | done | rfl)), by rw [ht]; exact hP, va_K.moved hW.alike hK, hD⟩, hS.F ht⟩) hS.2.2 dX4_translateByTables_95
  · refine lv_aload_n hx hb dX4_translateByTables_49 rfl (lv_at hl 1 rfl) ?_
    refine va_get (D := (dC, dI)) (ci := 4) (v := .ref (a 4)) (C := RX4) (T := TX4) (N := 12) hx hb hta inA_X4 hown hK hP 0 rfl rfl 2 (by decide) (hta _ aw_174) (fun _ h9 => h9) rfl dX4_translateByTables_50 ?_
    refine lv_iload_n hx hb dX4_translateByTables_53 rfl (lv_at hl 3 rfl) ?_
    refine cx_callSi (va_runS (As := [.int p1]) (rest := [.ref (a 4)]) ⟨hx, hb, hml, hown, hta⟩ (c_X4_isWrite l p1) (va_cwS 1 hta (gS aw_376 aw_377 aw_38 aw_378) rfl rfl rfl (by decide +kernel) ⟨Nat.le_of_ble_eq_true rfl, Nat.le_of_ble_eq_true rfl⟩) cx_pre0 rfl rfl hl.1 rfl (lv_room (Nat.le_of_ble_eq_true rfl)) dX4_translateByTables_54 ⟨Nat.le_of_ble_eq_true rfl, Nat.le_of_ble_eq_true rfl⟩) (fun r hw_4 => ?_)
    subst hw_4
    have hFc : ∀ q, va_A (CWl a k LP N L f1 f2 f3 (f4 + (nI rd_1)) f5 (f6 + (1 : Int32)) f7 f8 rd_1 f10_1 f11_1 f12_1 n f14 lf_1 wd ho ro pa_1 rs E) H.size q → A q := cx_free hD hS hA
    refine va_callv (va_runVN (As := [.int (mX4_isWrite p1)]) (rest := []) ⟨hx, hb, hml, hown, hta⟩ (c_X3_mark l dC dI a k LP N L f1 f2 f3 (f4 + (nI rd_1)) f5 (f6 + (1 : Int32)) f7 f8 rd_1 f10_1 f11_1 f12_1 n f14 lf_1 wd ho ro pa_1 rs E H.size (mX4_isWrite p1) hrd4_1 hpa_1) ⟨va_cnB 1 hta (gC aw_429) rfl rfl rfl (hN.nm 15 rfl) (hta _ aw_40) (by decide +kernel) ⟨Nat.le_of_ble_eq_true rfl, Nat.le_of_ble_eq_true rfl⟩, (hta _ aw_428), (hta _ aw_11)⟩ (cx_preVQ hK hP hN (va_recv hK hP (ci := 3) (q0 := 4) rfl rfl) hD) rfl rfl hl.1 rfl (lv_room (Nat.le_of_ble_eq_true rfl)) dX4_translateByTables_57 ⟨Nat.le_of_ble_eq_true rfl, Nat.le_of_ble_eq_true rfl⟩) hS (fun q _ h => hFc q h) hFc (fun u t9 H1 locs ht hvm hw_5 hB hz1 hk1 hS => ?_)
    obtain ⟨wd_5, lf_5⟩ := u
    obtain ⟨hP, hK1, hD1⟩ := hB
    rw [ht] at hP
    have hD := hD1.weaken (fun _ _ _ h => hFc _ h)
    clear hFc hz1 hk1 hK1 hD1 ht hvm
    generalize H1 = H at hP hS ⊢
    have hP : va_P (dC, dI) vwCl (CWl a k LP N L f1 f2 f3 (f4 + (nI rd_1)) f5 (f6 + (1 : Int32)) f7 f8 rd_1 f10_1 f11_1 f12_1 n f14 lf_5 wd_5 ho ro pa_1 rs E) H := hP
    have hD : va_D A (CWl a k LP N L f1 f2 f3 (f4 + (nI rd_1)) f5 (f6 + (1 : Int32)) f7 f8 rd_1 f10_1 f11_1 f12_1 n f14 lf_5 wd_5 ho ro pa_1 rs E) := hD
    refine lv_aload_n hx hb dX4_translateByTables_60 rfl (lv_at hl 1 rfl) ?_
    refine va_get (D := (dC, dI)) (ci := 4) (v := .ref (a 6)) (C := RX4) (T := TX4) (N := 12) hx hb hta inA_X4 hown hK hP 0 rfl rfl 3 (by decide) (hta _ aw_175) (fun _ h9 => h9) rfl dX4_translateByTables_61 ?_
    refine lv_aload_n hx hb dX4_translateByTables_64 rfl (lv_at hl 1 rfl) ?_
    refine va_get (D := (dC, dI)) (ci := 4) (v := .int f1) (C := RX4) (T := TX4) (N := 12) hx hb hta inA_X4 hown hK hP 0 rfl rfl 5 (by decide) (hta _ aw_177) (fun _ h9 => h9) rfl dX4_translateByTables_65 ?_
    refine lv_iload_n hx hb dX4_translateByTables_68 rfl (lv_at hl 2 rfl) ?_
    refine lv_aload_n hx hb dX4_translateByTables_69 rfl (lv_at hl 1 rfl) ?_
    refine va_get (D := (dC, dI)) (ci := 4) (v := .ref (a 4)) (C := RX4) (T := TX4) (N := 12) hx hb hta inA_X4 hown hK hP 0 rfl rfl 2 (by decide) (hta _ aw_174) (fun _ h9 => h9) rfl dX4_translateByTables_70 ?_
    have hFc : ∀ q, va_A (CWl a k LP N L f1 f2 f3 (f4 + (nI rd_1)) f5 (f6 + (1 : Int32)) f7 f8 rd_1 f10_1 f11_1 f12_1 n f14 lf_5 wd_5 ho ro pa_1 rs E) H.size q → A q := cx_free hD hS hA
    refine va_callv (va_runVN (As := [.int f1, .int p0, .ref (a 4)]) (rest := []) ⟨hx, hb, hml, hown, hta⟩ (c_X0_keep l dC dI a k LP N L f1 f2 f3 (f4 + (nI rd_1)) f5 (f6 + (1 : Int32)) f7 f8 rd_1 f10_1 f11_1 f12_1 n f14 lf_5 wd_5 ho ro pa_1 rs E H.size f1 p0 hn h0N hN32 hrow) ⟨va_cnB 3 hta (gC aw_435) rfl rfl rfl (hN.nm 16 rfl) (hta _ aw_41) (by decide +kernel) ⟨Nat.le_of_ble_eq_true rfl, Nat.le_of_ble_eq_true rfl⟩, (hta _ aw_434), (hta _ aw_12)⟩ (cx_preVQ hK hP hN (va_recv hK hP (ci := 0) (q0 := 6) rfl rfl) hD) rfl rfl hl.1 rfl (lv_room (Nat.le_of_ble_eq_true rfl)) dX4_translateByTables_73 ⟨Nat.le_of_ble_eq_true rfl, Nat.le_of_ble_eq_true rfl⟩) hS (fun q _ h => hFc q h) hFc (fun u t9 H1 locs ht hvm hw_6 hB hz1 hk1 hS => ?_)
    obtain ⟨n_6, f14_6, rs_6, E_6⟩ := u
    obtain ⟨hP, hK1, hD1⟩ := hB
    rw [ht] at hP
    have hD := hD1.weaken (fun _ _ _ h => hFc _ h)
    clear hFc hz1 hk1 hK1 hD1 ht hvm
    generalize H1 = H at hP hS ⊢
    have hP : va_P (dC, dI) vwCl (CWl a k LP N L f1 f2 f3 (f4 + (nI rd_1)) f5 (f6 + (1 : Int32)) f7 f8 rd_1 f10_1 f11_1 f12_1 n_6 f14_6 lf_5 wd_5 ho ro pa_1 rs_6 E_6) H := hP
    have hD : va_D A (CWl a k LP N L f1 f2 f3 (f4 + (nI rd_1)) f5 (f6 + (1 : Int32)) f7 f8 rd_1 f10_1 f11_1 f12_1 n_6 f14_6 lf_5 wd_5 ho ro pa_1 rs_6 E_6) := hD
    refine lv_aload_n hx hb dX4_translateByTables_76 rfl (lv_at hl 1 rfl) ?_
    refine lv_iload_n hx hb dX4_translateByTables_77 rfl (lv_at hl 0 rfl) ?_
    refine lv_aload_n hx hb dX4_translateByTables_78 rfl (lv_at hl 1 rfl) ?_
    refine va_get (D := (dC, dI)) (ci := 4) (v := .ref (a 4)) (C := RX4) (T := TX4) (N := 12) hx hb hta inA_X4 hown hK hP 0 rfl rfl 2 (by decide) (hta _ aw_174) (fun _ h9 => h9) rfl dX4_translateByTables_79 ?_
    refine va_getN (D := (dC, dI)) (ci := 3) (v := .int f11_1) (C := RX3) (T := TX3) (N := 8) hx hb hta inA_X3 hown hK hP 4 rfl rfl 6 (by decide) (hN.nf 7 rfl) (fun _ h9 => h9) rfl dX4_translateByTables_82 ?_
    refine lv_aload_n hx hb dX4_translateByTables_85 rfl (lv_at hl 1 rfl) ?_
    refine va_get (D := (dC, dI)) (ci := 4) (v := .ref (a 4)) (C := RX4) (T := TX4) (N := 12) hx hb hta inA_X4 hown hK hP 0 rfl rfl 2 (by decide) (hta _ aw_174) (fun _ h9 => h9) rfl dX4_translateByTables_86 ?_
    refine va_getN (D := (dC, dI)) (ci := 3) (v := .int f12_1) (C := RX3) (T := TX3) (N := 8) hx hb hta inA_X3 hown hK hP 4 rfl rfl 7 (by decide) (hN.nf 8 rfl) (fun _ h9 => h9) rfl dX4_translateByTables_89 ?_
    have hFc : ∀ q, va_A (CWl a k LP N L f1 f2 f3 (f4 + (nI rd_1)) f5 (f6 + (1 : Int32)) f7 f8 rd_1 f10_1 f11_1 f12_1 n_6 f14_6 lf_5 wd_5 ho ro pa_1 rs_6 E_6) H.size q → A q := cx_free hD hS hA
    refine va_calli (va_runV (As := [.int r_1, .int f11_1, .int f12_1]) (rest := []) ⟨hx, hb, hml, hown, hta⟩ (c_X4_finish l dC dI a k LP N L f1 f2 f3 (f4 + (nI rd_1)) f5 (f6 + (1 : Int32)) f7 f8 rd_1 f10_1 f11_1 f12_1 n_6 f14_6 lf_5 wd_5 ho ro pa_1 rs_6 E_6 H.size r_1 f11_1 f12_1) (cwV 3 hta (gV aw_448 aw_450 aw_15 aw_38 aw_451) rfl rfl rfl (by decide +kernel) ⟨Nat.le_of_ble_eq_true rfl, Nat.le_of_ble_eq_true rfl⟩) (cx_preVQ hK hP hN (va_recv hK hP (ci := 4) (q0 := 0) rfl rfl) hD) rfl rfl hl.1 rfl (lv_room (Nat.le_of_ble_eq_true rfl)) dX4_translateByTables_92 ⟨Nat.le_of_ble_eq_true rfl, Nat.le_of_ble_eq_true rfl⟩) hS (fun q _ h => hFc q h) hFc (fun r_7 u t9 H1 locs ht hvm hw_7 hB hz1 hk1 hS => ?_)
    obtain ⟨f2_7, f3_7, f7_7⟩ := u
    obtain ⟨hP, hK1, hD1⟩ := hB
    rw [ht] at hP
    have hD := hD1.weaken (fun _ _ _ h => hFc _ h)
    clear hFc hz1 hk1 hK1 hD1 ht hvm
    generalize H1 = H at hP hS ⊢
    have hP : va_P (dC, dI) vwCl (CWl a k LP N L f1 f2_7 f3_7 (f4 + (nI rd_1)) f5 (f6 + (1 : Int32)) f7_7 f8 rd_1 f10_1 f11_1 f12_1 n_6 f14_6 lf_5 wd_5 ho ro pa_1 rs_6 E_6) H := hP
    have hD : va_D A (CWl a k LP N L f1 f2_7 f3_7 (f4 + (nI rd_1)) f5 (f6 + (1 : Int32)) f7_7 f8 rd_1 f10_1 f11_1 f12_1 n_6 f14_6 lf_5 wd_5 ho ro pa_1 rs_6 E_6) := hD
    exact W.iret (v := r_7) hx hb hr (fun t ht hW => ⟨⟨r_7, (f2_7, f3_7, f4 + (nI rd_1), f6 + (1 : Int32), f7_7, rd_1, f10_1, f11_1, f12_1, n_6, f14_6, lf_5, wd_5, pa_1, rs_6, E_6), rfl, (by unfold mX4_translateByTables; rewrite [← hw_1]; (try dsimp only); rewrite [if_pos c_46_1]; rewrite [← hw_5]; (try dsimp only); rewrite [← hw_6]; (try dsimp only); rewrite [← hw_7]; (try dsimp only); (first | done | rfl)), by rw [ht]; exact hP, va_K.moved hW.alike hK, hD⟩, hS.F ht⟩) hS.2.2 dX4_translateByTables_95
/-- PageRows.translateByEntry -/
def mX4_translateByEntry (L : Nat) (f5 : Int32) (f7 : Int32) (f8 : Int32) (ho : Nat → Int32) (rs : Nat → Option Nat) (E : Nat → Nat → Int32) (p0 : Nat) (p1 : Int32) (p2 : Int32) : Int32 × Int32 × Int32 × Int32 × Int32 × (Nat → Option Nat) :=
  match useRs rs p0 with
  | rs_1 =>
    if (mX4_allows (E 4 (rowA rs p0)) p2) = 0 then
      match mX4_finish f7 (3 : Int32) (nI L) (-1 : Int32) with
      | (r_11, f2_11, f3_11, f7_11) =>
        (r_11, f2_11, f3_11, f5 + (1 : Int32), f7_11, rs_1)
    else
      if (mX2_reach f8 ho (E 3 (rowA rs p0)) (E 1 (rowA rs p0)) p1) = (-1 : Int32) then
        match mX4_finish f7 (6 : Int32) (nI L) (mX2_reach f8 ho (E 3 (rowA rs p0)) (E 1 (rowA rs p0)) p1) with
        | (r_10, f2_10, f3_10, f7_10) =>
          (r_10, f2_10, f3_10, f5 + (1 : Int32), f7_10, rs_1)
      else
        match mX4_finish f7 (0 : Int32) (nI L) (mX2_reach f8 ho (E 3 (rowA rs p0)) (E 1 (rowA rs p0)) p1) with
        | (r_9, f2_9, f3_9, f7_9) =>
          (r_9, f2_9, f3_9, f5 + (1 : Int32), f7_9, rs_1)
set_option maxHeartbeats 4000000 in
set_option maxRecDepth 100000 in
theorem c_X4_translateByEntry (l : Launch) (dC : Nat → ClassId) (dI : Nat → Nat → Nat) (a : Nat → Nat) (k : Nat → ClassId) (LP : List Nat) (N : Nat) (L : Nat) (f1 f2 f3 f4 f5 f6 f7 f8 : Int32) (rd : Nat) (f10 f11 f12 : Int32) (n : Nat) (f14 : Int32) (lf : Int64) (wd : Nat → Int64) (ho ro pa : Nat → Int32) (rs : Nat → Option Nat) (E : Nat → Nat → Int32)  (sz : Nat) (p0 : Nat) (p1 : Int32) (p2 : Int32) (hk : p0 < N) (hn : n ≤ N) (hN32 : N ≤ 32) (hrow : ∀ i, i < N → rs i = some (rowA rs i) ∧ rowA rs i ∈ LP) : Met l yX4_translateByEntry (wX4_translateByEntry :: AW) ({ frames := 2, cells := 0, slots := 0, locals := 46 }) (va_Pc [.ref (a 0), .int (nI p0), .int p1, .int p2] (CPrQ dC dI (CWl a k LP N L f1 f2 f3 f4 f5 f6 f7 f8 rd f10 f11 f12 n f14 lf wd ho ro pa rs E) [(k 0, .long), (k 1, .int), (k 2, .int), (k 3, .object "PageRows$Entry"), (k 4, .int)] sz)) (va_Qi (fun (r : Int32) (u : Int32 × Int32 × Int32 × Int32 × (Nat → Option Nat)) => (r, u) = mX4_translateByEntry L f5 f7 f8 ho rs E p0 p1 p2) (fun (u : Int32 × Int32 × Int32 × Int32 × (Nat → Option Nat)) (t : State) => match u with | (f2', f3', f5', f7', rs') => va_P (dC, dI) vwCl (CWl a k LP N L f1 f2' f3' f4 f5' f6 f7' f8 rd f10 f11 f12 n f14 lf wd ho ro pa rs' E) t.heap ∧ va_K (dC, dI) vwCl [(k 0, .long), (k 1, .int), (k 2, .int), (k 3, .object "PageRows$Entry"), (k 4, .int)] t ∧ va_D (va_A (CWl a k LP N L f1 f2 f3 f4 f5 f6 f7 f8 rd f10 f11 f12 n f14 lf wd ho ro pa rs E) sz) (CWl a k LP N L f1 f2' f3' f4 f5' f6 f7' f8 rd f10 f11 f12 n f14 lf wd ho ro pa rs' E)) (va_A (CWl a k LP N L f1 f2 f3 f4 f5 f6 f7 f8 rd f10 f11 f12 n f14 lf wd ho ro pa rs E) sz)) 0 0 (va_A (CWl a k LP N L f1 f2 f3 f4 f5 f6 f7 f8 rd f10 f11 f12 n f14 lf wd ho ro pa rs E) sz) := by
  refine cx_of (cc := cX4_translateByEntry) (maxL := 6) (ret := some .int) (by decide) rfl (Nat.le_of_ble_eq_true rfl) ?_
  intro p e s m below meth c ls hx hb hr hts hown hlocks hml hnm hl hB
  have hta : ∀ w ∈ AW, w.before [.ref (a 0), .int (nI p0), .int p1, .int p2].toArray s = true := fun w h => hts w (List.mem_cons_of_mem _ h)
  have hl : lv_has ls 6 [(0, .ref (a 0)), (1, .int (nI p0)), (2, .int p1), (3, .int p2)] := hl
  have hown : s.vm.findClass RX4 = some m.cls := hown
  obtain ⟨rfl, ⟨hP, hK, hN⟩, hD0⟩ := hB
  have hD := hD0.self (sz := s.heap.size)
  generalize hAe : va_A (CWl a k LP N L f1 f2 f3 f4 f5 f6 f7 f8 rd f10 f11 f12 n f14 lf wd ho ro pa rs E) s.heap.size = A at hD ⊢
  have hA : ∀ q : Nat, s.heap.size ≤ q → A q := fun q h => by rw [← hAe]; exact Or.inr h
  have hS : va_S A s.heap s.heap [] := va_S.rf
  refine lv_aload_n hx hb dX4_translateByEntry_0 rfl (lv_at hl 0 rfl) ?_
  refine lv_dup hx hb dX4_translateByEntry_1 rfl ?_
  refine va_get (D := (dC, dI)) (ci := 4) (v := .int f5) (C := RX4) (T := TX4) (N := 12) hx hb hta inA_X4 hown hK hP 0 rfl rfl 9 (by decide) (hta _ aw_181) (fun _ h9 => h9) rfl dX4_translateByEntry_2 ?_
  refine lv_iconst (v := 1) hx hb dX4_translateByEntry_5 (by decide) ?_
  refine lv_iadd hx hb dX4_translateByEntry_6 ?_
  refine va_put (D := (dC, dI)) (ci := 4) (v := .int (f5 + (1 : Int32))) (ty := .int) (C := RX4) (T := TX4) (N := 12) hx hb hta inA_X4 tyX4 tyX4_ok nmX4 hown hK hP hD hS 0 rfl rfl 9 (by decide) (hta _ aw_181) (fun _ h9 => h9) rfl (by decide +kernel) rfl rfl (Nat.le_of_ble_eq_true rfl) dX4_translateByEntry_7 (fun H locs hP hD hS => ?_)
  have hP : va_P (dC, dI) vwCl (CWl a k LP N L f1 f2 f3 f4 (f5 + (1 : Int32)) f6 f7 f8 rd f10 f11 f12 n f14 lf wd ho ro pa rs E) H := hP
  have hD : va_D A (CWl a k LP N L f1 f2 f3 f4 (f5 + (1 : Int32)) f6 f7 f8 rd f10 f11 f12 n f14 lf wd ho ro pa rs E) := hD
  refine lv_aload_n hx hb dX4_translateByEntry_10 rfl (lv_at hl 0 rfl) ?_
  refine va_get (D := (dC, dI)) (ci := 4) (v := .ref (a 6)) (C := RX4) (T := TX4) (N := 12) hx hb hta inA_X4 hown hK hP 0 rfl rfl 3 (by decide) (hta _ aw_175) (fun _ h9 => h9) rfl dX4_translateByEntry_11 ?_
  refine va_getN (D := (dC, dI)) (ci := 0) (v := .ref (a 7)) (C := RX0) (T := TX0) (N := 3) hx hb hta inA_X0 hown hK hP 6 rfl rfl 0 (by decide) (hN.nf 21 rfl) (fun _ h9 => h9) rfl dX4_translateByEntry_14 ?_
  refine lv_iload_n hx hb dX4_translateByEntry_17 rfl (lv_at hl 1 rfl) ?_
  refine cx_aald hx hb hK hP 7 3 rfl rfl (vp_in_nI (by omega) (by omega)) (by rw [nI_clamp (by omega)]; exact (hrow p0 (by omega)).1) dX4_translateByEntry_18 ?_
  refine lv_astore (lv' := [(4, .ref (rowA rs p0)), (0, .ref (a 0)), (1, .int (nI p0)), (2, .int p1), (3, .int p2)]) hx hb dX4_translateByEntry_19 hl (by decide) rfl (fun ls hl => ?_)
  refine lv_aload_n hx hb dX4_translateByEntry_21 rfl (lv_at hl 1 rfl) ?_
  refine va_get (D := (dC, dI)) (ci := 4) (v := .ref (a 6)) (C := RX4) (T := TX4) (N := 12) hx hb hta inA_X4 hown hK hP 0 rfl rfl 3 (by decide) (hta _ aw_175) (fun _ h9 => h9) rfl dX4_translateByEntry_22 ?_
  refine lv_iload_n hx hb dX4_translateByEntry_25 rfl (lv_at hl 2 rfl) ?_
  have hFc : ∀ q, va_A (CWl a k LP N L f1 f2 f3 f4 (f5 + (1 : Int32)) f6 f7 f8 rd f10 f11 f12 n f14 lf wd ho ro pa rs E) H.size q → A q := cx_free hD hS hA
  refine va_callv (va_runVN (As := [.int (nI p0)]) (rest := []) ⟨hx, hb, hml, hown, hta⟩ (c_X0_use l dC dI a k LP N L f1 f2 f3 f4 (f5 + (1 : Int32)) f6 f7 f8 rd f10 f11 f12 n f14 lf wd ho ro pa rs E H.size p0 (by omega) hN32 hrow) ⟨va_cnB 1 hta (gC aw_447) rfl rfl rfl (hN.nm 20 rfl) (hta _ aw_41) (by decide +kernel) ⟨Nat.le_of_ble_eq_true rfl, Nat.le_of_ble_eq_true rfl⟩, (hta _ aw_446), (hta _ aw_14)⟩ (cx_preVQ hK hP hN (va_recv hK hP (ci := 0) (q0 := 6) rfl rfl) hD) rfl rfl hl.1 rfl (lv_room (Nat.le_of_ble_eq_true rfl)) dX4_translateByEntry_26 ⟨Nat.le_of_ble_eq_true rfl, Nat.le_of_ble_eq_true rfl⟩) hS (fun q _ h => hFc q h) hFc (fun u t9 H1 locs ht hvm hw_1 hB hz1 hk1 hS => ?_)
  obtain ⟨rs_1, rfl⟩ : ∃ z, z = u := ⟨_, rfl⟩
  obtain ⟨hP, hK1, hD1⟩ := hB
  rw [ht] at hP
  have hD := hD1.weaken (fun _ _ _ h => hFc _ h)
  clear hFc hz1 hk1 hK1 hD1 ht hvm
  generalize H1 = H at hP hS ⊢
  have hP : va_P (dC, dI) vwCl (CWl a k LP N L f1 f2 f3 f4 (f5 + (1 : Int32)) f6 f7 f8 rd f10 f11 f12 n f14 lf wd ho ro pa rs_1 E) H := hP
  have hD : va_D A (CWl a k LP N L f1 f2 f3 f4 (f5 + (1 : Int32)) f6 f7 f8 rd f10 f11 f12 n f14 lf wd ho ro pa rs_1 E) := hD
  refine lv_aload hx hb dX4_translateByEntry_29 (lv_at hl 0 rfl) ?_
  obtain ⟨k_2, hk_2⟩ := va_pl_get (X := (CWx a k N L f1 f2 f3 f4 (f5 + (1 : Int32)) f6 f7 f8 rd f10 f11 f12 n f14 lf wd ho ro pa rs_1)) (f := (CEf E)) (hrow p0 (by omega)).2
  refine va_getN (D := (dC, dI)) (ci := 1) (v := .int (E 4 (rowA rs p0))) (C := RX1) (T := TX1) (N := 6) hx hb hta inA_X1 hown hK hP k_2 hk_2 rfl 4 (by decide) (hN.nf 18 rfl) (fun _ h9 => h9) rfl dX4_translateByEntry_31 ?_
  refine lv_iload_n hx hb dX4_translateByEntry_34 rfl (lv_at hl 4 rfl) ?_
  refine cx_callSi (va_runS (As := [.int (E 4 (rowA rs p0)), .int p2]) (rest := []) ⟨hx, hb, hml, hown, hta⟩ (c_X4_allows l (E 4 (rowA rs p0)) p2) (va_cwS 2 hta (gS aw_379 aw_380 aw_38 aw_381) rfl rfl rfl (by decide +kernel) ⟨Nat.le_of_ble_eq_true rfl, Nat.le_of_ble_eq_true rfl⟩) cx_pre0 rfl rfl hl.1 rfl (lv_room (Nat.le_of_ble_eq_true rfl)) dX4_translateByEntry_35 ⟨Nat.le_of_ble_eq_true rfl, Nat.le_of_ble_eq_true rfl⟩) (fun r hw_3 => ?_)
  subst hw_3
  refine lv_if_ne (tgt := 52) hx hb dX4_translateByEntry_38 (by decide) (fun c_38_3 => ?_) (fun c_38_3 => ?_)
  · refine lv_aload_n hx hb dX4_translateByEntry_52 rfl (lv_at hl 1 rfl) ?_
    refine va_get (D := (dC, dI)) (ci := 4) (v := .ref (a 1)) (C := RX4) (T := TX4) (N := 12) hx hb hta inA_X4 hown hK hP 0 rfl rfl 1 (by decide) (hta _ aw_173) (fun _ h9 => h9) rfl dX4_translateByEntry_53 ?_
    refine lv_aload hx hb dX4_translateByEntry_56 (lv_at hl 0 rfl) ?_
    obtain ⟨k_5, hk_5⟩ := va_pl_get (X := (CWx a k N L f1 f2 f3 f4 (f5 + (1 : Int32)) f6 f7 f8 rd f10 f11 f12 n f14 lf wd ho ro pa rs_1)) (f := (CEf E)) (hrow p0 (by omega)).2
    refine va_getN (D := (dC, dI)) (ci := 1) (v := .int (E 3 (rowA rs p0))) (C := RX1) (T := TX1) (N := 6) hx hb hta inA_X1 hown hK hP k_5 hk_5 rfl 3 (by decide) (hN.nf 16 rfl) (fun _ h9 => h9) rfl dX4_translateByEntry_58 ?_
    refine lv_aload hx hb dX4_translateByEntry_61 (lv_at hl 0 rfl) ?_
    obtain ⟨k_6, hk_6⟩ := va_pl_get (X := (CWx a k N L f1 f2 f3 f4 (f5 + (1 : Int32)) f6 f7 f8 rd f10 f11 f12 n f14 lf wd ho ro pa rs_1)) (f := (CEf E)) (hrow p0 (by omega)).2
    refine va_getN (D := (dC, dI)) (ci := 1) (v := .int (E 1 (rowA rs p0))) (C := RX1) (T := TX1) (N := 6) hx hb hta inA_X1 hown hK hP k_6 hk_6 rfl 1 (by decide) (hN.nf 12 rfl) (fun _ h9 => h9) rfl dX4_translateByEntry_63 ?_
    refine lv_iload_n hx hb dX4_translateByEntry_66 rfl (lv_at hl 3 rfl) ?_
    refine cx_callSi (va_runVN (As := [.int (E 3 (rowA rs p0)), .int (E 1 (rowA rs p0)), .int p1]) (rest := []) ⟨hx, hb, hml, hown, hta⟩ (c_X2_reach l dC dI a k LP N L f1 f2 f3 f4 (f5 + (1 : Int32)) f6 f7 f8 rd f10 f11 f12 n f14 lf wd ho ro pa rs_1 E (E 3 (rowA rs p0)) (E 1 (rowA rs p0)) p1) ⟨va_cnB 3 hta (gC aw_423) rfl rfl rfl (hN.nm 21 rfl) (hta _ aw_39) (by decide +kernel) ⟨Nat.le_of_ble_eq_true rfl, Nat.le_of_ble_eq_true rfl⟩, (hta _ aw_422), (hta _ aw_10)⟩ (cx_preVS hK hP hN (va_recv hK hP (ci := 2) (q0 := 1) rfl rfl)) rfl rfl hl.1 rfl (lv_room (Nat.le_of_ble_eq_true rfl)) dX4_translateByEntry_67 ⟨Nat.le_of_ble_eq_true rfl, Nat.le_of_ble_eq_true rfl⟩) (fun r hw_7 => ?_)
    subst hw_7
    refine lv_istore (lv' := [(5, .int (mX2_reach f8 ho (E 3 (rowA rs p0)) (E 1 (rowA rs p0)) p1)), (4, .ref (rowA rs p0)), (0, .ref (a 0)), (1, .int (nI p0)), (2, .int p1), (3, .int p2)]) hx hb dX4_translateByEntry_70 hl (by decide) rfl (fun ls hl => ?_)
    refine lv_aload_n hx hb dX4_translateByEntry_72 rfl (lv_at hl 2 rfl) ?_
    refine lv_iload hx hb dX4_translateByEntry_73 (lv_at hl 0 rfl) ?_
    refine lv_iconst (v := (-1)) hx hb dX4_translateByEntry_75 (by decide) ?_
    refine lv_icmp_ne (tgt := 84) hx hb dX4_translateByEntry_76 (by decide) (fun c_76_7 => ?_) (fun c_76_7 => ?_)
    · refine lv_iconst (v := 0) hx hb dX4_translateByEntry_84 (by decide) ?_
      refine lv_aload_n hx hb dX4_translateByEntry_85 rfl (lv_at hl 2 rfl) ?_
      refine va_get (D := (dC, dI)) (ci := 4) (v := .int (nI L)) (C := RX4) (T := TX4) (N := 12) hx hb hta inA_X4 hown hK hP 0 rfl rfl 0 (by decide) (hta _ aw_172) (fun _ h9 => h9) rfl dX4_translateByEntry_86 ?_
      refine lv_iload hx hb dX4_translateByEntry_89 (lv_at hl 0 rfl) ?_
      have hFc : ∀ q, va_A (CWl a k LP N L f1 f2 f3 f4 (f5 + (1 : Int32)) f6 f7 f8 rd f10 f11 f12 n f14 lf wd ho ro pa rs_1 E) H.size q → A q := cx_free hD hS hA
      refine va_calli (va_runV (As := [.int (0 : Int32), .int (nI L), .int (mX2_reach f8 ho (E 3 (rowA rs p0)) (E 1 (rowA rs p0)) p1)]) (rest := []) ⟨hx, hb, hml, hown, hta⟩ (c_X4_finish l dC dI a k LP N L f1 f2 f3 f4 (f5 + (1 : Int32)) f6 f7 f8 rd f10 f11 f12 n f14 lf wd ho ro pa rs_1 E H.size (0 : Int32) (nI L) (mX2_reach f8 ho (E 3 (rowA rs p0)) (E 1 (rowA rs p0)) p1)) (cwV 3 hta (gV aw_448 aw_450 aw_15 aw_38 aw_451) rfl rfl rfl (by decide +kernel) ⟨Nat.le_of_ble_eq_true rfl, Nat.le_of_ble_eq_true rfl⟩) (cx_preVQ hK hP hN (va_recv hK hP (ci := 4) (q0 := 0) rfl rfl) hD) rfl rfl hl.1 rfl (lv_room (Nat.le_of_ble_eq_true rfl)) dX4_translateByEntry_91 ⟨Nat.le_of_ble_eq_true rfl, Nat.le_of_ble_eq_true rfl⟩) hS (fun q _ h => hFc q h) hFc (fun r_9 u t9 H1 locs ht hvm hw_9 hB hz1 hk1 hS => ?_)
      obtain ⟨f2_9, f3_9, f7_9⟩ := u
      obtain ⟨hP, hK1, hD1⟩ := hB
      rw [ht] at hP
      have hD := hD1.weaken (fun _ _ _ h => hFc _ h)
      clear hFc hz1 hk1 hK1 hD1 ht hvm
      generalize H1 = H at hP hS ⊢
      have hP : va_P (dC, dI) vwCl (CWl a k LP N L f1 f2_9 f3_9 f4 (f5 + (1 : Int32)) f6 f7_9 f8 rd f10 f11 f12 n f14 lf wd ho ro pa rs_1 E) H := hP
      have hD : va_D A (CWl a k LP N L f1 f2_9 f3_9 f4 (f5 + (1 : Int32)) f6 f7_9 f8 rd f10 f11 f12 n f14 lf wd ho ro pa rs_1 E) := hD
      exact W.iret (v := r_9) hx hb hr (fun t ht hW => ⟨⟨r_9, (f2_9, f3_9, f5 + (1 : Int32), f7_9, rs_1), rfl, (by unfold mX4_translateByEntry; rewrite [← hw_1]; (try dsimp only); rewrite [if_neg c_38_3]; rewrite [if_neg c_76_7]; rewrite [← hw_9]; (try dsimp only); (first | done | rfl)), by rw [ht]; exact hP, va_K.moved hW.alike hK, hD⟩, hS.F ht⟩) hS.2.2 dX4_translateByEntry_94
    · refine lv_bipush (v := 6) hx hb dX4_translateByEntry_79 (by decide) ?_
      refine lv_goto (tgt := 85) hx hb dX4_translateByEntry_81 (by decide) ?_
      refine lv_aload_n hx hb dX4_translateByEntry_85 rfl (lv_at hl 2 rfl) ?_
      refine va_get (D := (dC, dI)) (ci := 4) (v := .int (nI L)) (C := RX4) (T := TX4) (N := 12) hx hb hta inA_X4 hown hK hP 0 rfl rfl 0 (by decide) (hta _ aw_172) (fun _ h9 => h9) rfl dX4_translateByEntry_86 ?_
      refine lv_iload hx hb dX4_translateByEntry_89 (lv_at hl 0 rfl) ?_
      have hFc : ∀ q, va_A (CWl a k LP N L f1 f2 f3 f4 (f5 + (1 : Int32)) f6 f7 f8 rd f10 f11 f12 n f14 lf wd ho ro pa rs_1 E) H.size q → A q := cx_free hD hS hA
      refine va_calli (va_runV (As := [.int (6 : Int32), .int (nI L), .int (mX2_reach f8 ho (E 3 (rowA rs p0)) (E 1 (rowA rs p0)) p1)]) (rest := []) ⟨hx, hb, hml, hown, hta⟩ (c_X4_finish l dC dI a k LP N L f1 f2 f3 f4 (f5 + (1 : Int32)) f6 f7 f8 rd f10 f11 f12 n f14 lf wd ho ro pa rs_1 E H.size (6 : Int32) (nI L) (mX2_reach f8 ho (E 3 (rowA rs p0)) (E 1 (rowA rs p0)) p1)) (cwV 3 hta (gV aw_448 aw_450 aw_15 aw_38 aw_451) rfl rfl rfl (by decide +kernel) ⟨Nat.le_of_ble_eq_true rfl, Nat.le_of_ble_eq_true rfl⟩) (cx_preVQ hK hP hN (va_recv hK hP (ci := 4) (q0 := 0) rfl rfl) hD) rfl rfl hl.1 rfl (lv_room (Nat.le_of_ble_eq_true rfl)) dX4_translateByEntry_91 ⟨Nat.le_of_ble_eq_true rfl, Nat.le_of_ble_eq_true rfl⟩) hS (fun q _ h => hFc q h) hFc (fun r_10 u t9 H1 locs ht hvm hw_10 hB hz1 hk1 hS => ?_)
      obtain ⟨f2_10, f3_10, f7_10⟩ := u
      obtain ⟨hP, hK1, hD1⟩ := hB
      rw [ht] at hP
      have hD := hD1.weaken (fun _ _ _ h => hFc _ h)
      clear hFc hz1 hk1 hK1 hD1 ht hvm
      generalize H1 = H at hP hS ⊢
      have hP : va_P (dC, dI) vwCl (CWl a k LP N L f1 f2_10 f3_10 f4 (f5 + (1 : Int32)) f6 f7_10 f8 rd f10 f11 f12 n f14 lf wd ho ro pa rs_1 E) H := hP
      have hD : va_D A (CWl a k LP N L f1 f2_10 f3_10 f4 (f5 + (1 : Int32)) f6 f7_10 f8 rd f10 f11 f12 n f14 lf wd ho ro pa rs_1 E) := hD
      exact W.iret (v := r_10) hx hb hr (fun t ht hW => ⟨⟨r_10, (f2_10, f3_10, f5 + (1 : Int32), f7_10, rs_1), rfl, (by unfold mX4_translateByEntry; rewrite [← hw_1]; (try dsimp only); rewrite [if_neg c_38_3]; rewrite [if_pos c_76_7]; rewrite [← hw_10]; (try dsimp only); (first | done | rfl)), by rw [ht]; exact hP, va_K.moved hW.alike hK, hD⟩, hS.F ht⟩) hS.2.2 dX4_translateByEntry_94
  · refine lv_aload_n hx hb dX4_translateByEntry_41 rfl (lv_at hl 1 rfl) ?_
    refine lv_iconst (v := 3) hx hb dX4_translateByEntry_42 (by decide) ?_
    refine lv_aload_n hx hb dX4_translateByEntry_43 rfl (lv_at hl 1 rfl) ?_
    refine va_get (D := (dC, dI)) (ci := 4) (v := .int (nI L)) (C := RX4) (T := TX4) (N := 12) hx hb hta inA_X4 hown hK hP 0 rfl rfl 0 (by decide) (hta _ aw_172) (fun _ h9 => h9) rfl dX4_translateByEntry_44 ?_
    refine lv_iconst (v := (-1)) hx hb dX4_translateByEntry_47 (by decide) ?_
    have hFc : ∀ q, va_A (CWl a k LP N L f1 f2 f3 f4 (f5 + (1 : Int32)) f6 f7 f8 rd f10 f11 f12 n f14 lf wd ho ro pa rs_1 E) H.size q → A q := cx_free hD hS hA
    refine va_calli (va_runV (As := [.int (3 : Int32), .int (nI L), .int (-1 : Int32)]) (rest := []) ⟨hx, hb, hml, hown, hta⟩ (c_X4_finish l dC dI a k LP N L f1 f2 f3 f4 (f5 + (1 : Int32)) f6 f7 f8 rd f10 f11 f12 n f14 lf wd ho ro pa rs_1 E H.size (3 : Int32) (nI L) (-1 : Int32)) (cwV 3 hta (gV aw_448 aw_450 aw_15 aw_38 aw_451) rfl rfl rfl (by decide +kernel) ⟨Nat.le_of_ble_eq_true rfl, Nat.le_of_ble_eq_true rfl⟩) (cx_preVQ hK hP hN (va_recv hK hP (ci := 4) (q0 := 0) rfl rfl) hD) rfl rfl hl.1 rfl (lv_room (Nat.le_of_ble_eq_true rfl)) dX4_translateByEntry_48 ⟨Nat.le_of_ble_eq_true rfl, Nat.le_of_ble_eq_true rfl⟩) hS (fun q _ h => hFc q h) hFc (fun r_11 u t9 H1 locs ht hvm hw_11 hB hz1 hk1 hS => ?_)
    obtain ⟨f2_11, f3_11, f7_11⟩ := u
    obtain ⟨hP, hK1, hD1⟩ := hB
    rw [ht] at hP
    have hD := hD1.weaken (fun _ _ _ h => hFc _ h)
    clear hFc hz1 hk1 hK1 hD1 ht hvm
    generalize H1 = H at hP hS ⊢
    have hP : va_P (dC, dI) vwCl (CWl a k LP N L f1 f2_11 f3_11 f4 (f5 + (1 : Int32)) f6 f7_11 f8 rd f10 f11 f12 n f14 lf wd ho ro pa rs_1 E) H := hP
    have hD : va_D A (CWl a k LP N L f1 f2_11 f3_11 f4 (f5 + (1 : Int32)) f6 f7_11 f8 rd f10 f11 f12 n f14 lf wd ho ro pa rs_1 E) := hD
    exact W.iret (v := r_11) hx hb hr (fun t ht hW => ⟨⟨r_11, (f2_11, f3_11, f5 + (1 : Int32), f7_11, rs_1), rfl, (by unfold mX4_translateByEntry; rewrite [← hw_1]; (try dsimp only); rewrite [if_pos c_38_3]; rewrite [← hw_11]; (try dsimp only); (first | done | rfl)), by rw [ht]; exact hP, va_K.moved hW.alike hK, hD⟩, hS.F ht⟩) hS.2.2 dX4_translateByEntry_51
