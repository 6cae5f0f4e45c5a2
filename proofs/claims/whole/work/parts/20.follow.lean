def HOK (ho : Nat → Int32) : Prop := ∀ j, j < 256 → ho j = (-1 : Int32) ∨ ¬ ho j < 0
theorem home_ok {f8 : Int32} {ho : Nat → Int32} {p0 : Int32} (h : HOK ho) (hp : ¬ p0 < 0) : ¬ mX2_homeOf f8 ho p0 = (-1 : Int32) → ¬ mX2_homeOf f8 ho p0 < 0 := by
  unfold mX2_homeOf
  by_cases h1 : f8 = 0
  · rw [if_pos h1]
    exact fun _ => hp
  · rw [if_neg h1, if_neg hp]
    by_cases h3 : (256 : Int32) ≤ p0
    · rw [if_pos h3]
      exact fun q => absurd rfl q
    · rw [if_neg h3]
      obtain ⟨j, hj, rfl⟩ := vp_in_of (cx_in (n := 256) hp h3 rfl) (by decide)
      rw [nI_clamp (by omega)]
      intro q
      rcases h j hj with e | e
      · exact absurd e q
      · exact e
theorem read_rd {f8 : Int32} {rd : Nat} {lf : Int64} {wd : Nat → Int64} {ho pa : Nat → Int32} {p0 p1 r : Int32} {rd' : Nat} {lf' : Int64} {pa' : Nat → Int32} (h : (r, rd', lf', pa') = mX3_read f8 rd lf wd ho pa p0 p1) : rd' ≤ rd + 1 := by
  unfold mX3_read at h
  split at h
  · cases h; omega
  · split at h
    · split at h
      · cases h; omega
      · cases h; omega
    · cases h; omega
theorem frameOf_nn (x : Int64) : ¬ mX4_frameOf x < 0 := by
  unfold mX4_frameOf
  obtain ⟨j, hj, e⟩ := pk_andE ((jlushr x (8 : Int32)).toInt32) (m := (1048575 : Int32)) 20 (by decide)
  rw [e]
  exact nI_pos (by omega)
/-- Path.follow behind the leaf's reading: largeness b, the leaf's frame fr -/
def mFolT (L : Nat) (f8 : Int32) (ho : Nat → Int32) (p1 p2 : Int32) (b : Nat) (fr : Int32) (rd : Nat) (lf : Int64) (pa : Nat → Int32) : Int32 × Nat × Int64 × Int32 × Int32 × Int32 × (Nat → Int32) :=
  if mX3_leafFault (nI b) lf p2 = 0 then
    (if mX2_reach f8 ho fr (nI b) p1 = (-1 : Int32) then ((6 : Int32), rd, lf, nI b, nI L, mX2_reach f8 ho fr (nI b) p1, pa)
    else ((0 : Int32), rd, lf, nI b, (-1 : Int32), mX2_reach f8 ho fr (nI b) p1, pa))
  else (mX3_leafFault (nI b) lf p2, rd, lf, nI b, (nI L - (1 : Int32)) - nI b, (-1 : Int32), pa)
/-- Path.follow from the table at fr on, b levels behind it -/
def mFolL (L : Nat) (f8 : Int32) (wd : Nat → Int64) (ho : Nat → Int32) (p1 p2 : Int32) (f10 : Int32) : Nat → Int32 → Nat → Int64 → (Nat → Int32) → Int32 × Nat × Int64 × Int32 × Int32 × Int32 × (Nat → Int32)
  | 0, fr, rd, lf, pa => match mX3_read f8 rd lf wd ho pa fr (p1 >>> (mX4_bitsBelow (nI 0) &&& 31)) with
    | (r, rd', lf', pa') => if r = 0 then mFolT L f8 ho p1 p2 0 (mX4_frameOf lf') rd' lf' pa' else (r, rd', lf', f10, (nI L - (1 : Int32)) - nI 0, (-1 : Int32), pa')
  | b + 1, fr, rd, lf, pa => match mX3_read f8 rd lf wd ho pa fr (p1 >>> (mX4_bitsBelow (nI (b + 1)) &&& 31)) with
    | (r, rd', lf', pa') => if r = 0 then (if lg_cmp (lf' &&& (32 : Int64)) (0 : Int64) = 0 then mFolL L f8 wd ho p1 p2 f10 b (mX4_frameOf lf') rd' lf' pa' else mFolT L f8 ho p1 p2 (b + 1) (mX4_frameOf lf') rd' lf' pa') else (r, rd', lf', f10, (nI L - (1 : Int32)) - nI (b + 1), (-1 : Int32), pa')
def mFol (L : Nat) (f8 : Int32) (wd : Nat → Int64) (ho : Nat → Int32) (f10 : Int32) (lf : Int64) (pa : Nat → Int32) (p0 p1 p2 : Int32) : Int32 × Nat × Int64 × Int32 × Int32 × Int32 × (Nat → Int32) :=
  if mX3_isOutside L p1 = 0 then mFolL L f8 wd ho p1 p2 f10 (L - 1) p0 0 lf pa else ((1 : Int32), 0, lf, f10, (0 : Int32), (-1 : Int32), pa)

set_option maxHeartbeats 4000000 in
set_option maxRecDepth 100000 in
theorem c_X3_follow (l : Launch) (dC : Nat → ClassId) (dI : Nat → Nat → Nat) (a : Nat → Nat) (k : Nat → ClassId) (LP : List Nat) (N : Nat) (L : Nat) (f1 f2 f3 f4 f5 f6 f7 f8 : Int32) (rd : Nat) (f10 f11 f12 : Int32) (n : Nat) (f14 : Int32) (lf : Int64) (wd : Nat → Int64) (ho ro pa : Nat → Int32) (rs : Nat → Option Nat) (E : Nat → Nat → Int32)  (sz : Nat) (p0 : Int32) (p1 : Int32) (p2 : Int32) (hL1 : 1 ≤ L) (hL4 : L ≤ 4) (hho : HOK ho) (hp0 : ¬ p0 < 0) : Met l yX3_follow (wX3_follow :: AW) ({ frames := 2, cells := 0, slots := 0, locals := 46 }) (va_Pc [.ref (a 4), .int p0, .int p1, .int p2] (CPrQ dC dI (CWl a k LP N L f1 f2 f3 f4 f5 f6 f7 f8 rd f10 f11 f12 n f14 lf wd ho ro pa rs E) [(k 0, .long), (k 1, .int), (k 2, .int), (k 3, .object "PageRows$Entry"), (k 4, .int)] sz)) (va_Qi (fun (r : Int32) (u : Nat × Int64 × Int32 × Int32 × Int32 × (Nat → Int32)) => (r, u) = mFol L f8 wd ho f10 lf pa p0 p1 p2) (fun (u : Nat × Int64 × Int32 × Int32 × Int32 × (Nat → Int32)) (t : State) => match u with | (rd', lf', f10', f11', f12', pa') => va_P (dC, dI) vwCl (CWl a k LP N L f1 f2 f3 f4 f5 f6 f7 f8 rd' f10' f11' f12' n f14 lf' wd ho ro pa' rs E) t.heap ∧ va_K (dC, dI) vwCl [(k 0, .long), (k 1, .int), (k 2, .int), (k 3, .object "PageRows$Entry"), (k 4, .int)] t ∧ va_D (va_A (CWl a k LP N L f1 f2 f3 f4 f5 f6 f7 f8 rd f10 f11 f12 n f14 lf wd ho ro pa rs E) sz) (CWl a k LP N L f1 f2 f3 f4 f5 f6 f7 f8 rd' f10' f11' f12' n f14 lf' wd ho ro pa' rs E)) (va_A (CWl a k LP N L f1 f2 f3 f4 f5 f6 f7 f8 rd f10 f11 f12 n f14 lf wd ho ro pa rs E) sz)) 0 0 (va_A (CWl a k LP N L f1 f2 f3 f4 f5 f6 f7 f8 rd f10 f11 f12 n f14 lf wd ho ro pa rs E) sz) := by
  refine cx_of (cc := cX3_follow) (maxL := 7) (ret := some .int) (by decide) rfl (Nat.le_of_ble_eq_true rfl) ?_
  intro p e s m below meth c ls hx hb hr hts hown hlocks hml hnm hl hB
  have hta : ∀ w ∈ AW, w.before [.ref (a 4), .int p0, .int p1, .int p2].toArray s = true := fun w h => hts w (List.mem_cons_of_mem _ h)
  have hl : lv_has ls 7 [(0, .ref (a 4)), (1, .int p0), (2, .int p1), (3, .int p2)] := hl
  have hown : s.vm.findClass RX3 = some m.cls := hown
  obtain ⟨rfl, ⟨hP, hK, hN⟩, hD0⟩ := hB
  have hD := hD0.self (sz := s.heap.size)
  generalize hAe : va_A (CWl a k LP N L f1 f2 f3 f4 f5 f6 f7 f8 rd f10 f11 f12 n f14 lf wd ho ro pa rs E) s.heap.size = A at hD ⊢
  have hA : ∀ q : Nat, s.heap.size ≤ q → A q := fun q h => by rw [← hAe]; exact Or.inr h
  have hS : va_S A s.heap s.heap [] := va_S.rf
  have tail : ∀ (b : Nat) (fr : Int32) (rd1 : Nat) (lf1 : Int64) (f101 : Int32) (pa1 : Nat → Int32), mFol L f8 wd ho f10 lf pa p0 p1 p2 = mFolT L f8 ho p1 p2 b fr rd1 lf1 pa1 → ∀ (H : Heap) (locs : List Loc), va_P (dC, dI) vwCl (CWl a k LP N L f1 f2 f3 f4 f5 f6 f7 f8 rd1 f101 (-1 : Int32) (-1 : Int32) n f14 lf1 wd ho ro pa1 rs E) H → va_D A (CWl a k LP N L f1 f2 f3 f4 f5 f6 f7 f8 rd1 f101 (-1 : Int32) (-1 : Int32) n f14 lf1 wd ho ro pa1 rs E) → va_S A s.heap H locs → ∀ (ls : Array Slot), lv_has ls 7 [(0, .ref (a 4)), (2, .int p1), (3, .int p2), (4, .int fr), (5, .int (nI b))] → W p l e ({ frames := 2, cells := 0, slots := 0, locals := 46 }) s m [.ref (a 4), .int p0, .int p1, .int p2].toArray below meth c H locs 0 0 (MQ below (va_Qi (fun (r : Int32) (u : Nat × Int64 × Int32 × Int32 × Int32 × (Nat → Int32)) => (r, u) = mFol L f8 wd ho f10 lf pa p0 p1 p2) (fun (u : Nat × Int64 × Int32 × Int32 × Int32 × (Nat → Int32)) (t : State) => match u with | (rd', lf', f10', f11', f12', pa') => va_P (dC, dI) vwCl (CWl a k LP N L f1 f2 f3 f4 f5 f6 f7 f8 rd' f10' f11' f12' n f14 lf' wd ho ro pa' rs E) t.heap ∧ va_K (dC, dI) vwCl [(k 0, .long), (k 1, .int), (k 2, .int), (k 3, .object "PageRows$Entry"), (k 4, .int)] t ∧ va_D A (CWl a k LP N L f1 f2 f3 f4 f5 f6 f7 f8 rd' f10' f11' f12' n f14 lf' wd ho ro pa' rs E)) A) [.ref (a 4), .int p0, .int p1, .int p2].toArray s 0 0 A) (F0 m 105 ls []) := by
    intro b fr rd1 lf1 f101 pa1 hm H locs hP hD hS ls hl
    refine lv_aload_n hx hb dX3_follow_105 rfl (lv_at hl 0 rfl) ?_
    refine lv_iload hx hb dX3_follow_106 (lv_at hl 4 rfl) ?_
    refine va_put (D := (dC, dI)) (ci := 3) (v := .int (nI b)) (ty := .int) (C := RX3) (T := TX3) (N := 8) hx hb hta inA_X3 tyX3 tyX3_ok nmX3 hown hK hP hD hS 4 rfl rfl 5 (by decide) (hta _ aw_92) (fun _ h9 => h9) rfl (by decide +kernel) rfl rfl (Nat.le_of_ble_eq_true rfl) dX3_follow_108 (fun H locs hP hD hS => ?_)
    have hP : va_P (dC, dI) vwCl (CWl a k LP N L f1 f2 f3 f4 f5 f6 f7 f8 rd1 (nI b) (-1 : Int32) (-1 : Int32) n f14 lf1 wd ho ro pa1 rs E) H := hP
    have hD : va_D A (CWl a k LP N L f1 f2 f3 f4 f5 f6 f7 f8 rd1 (nI b) (-1 : Int32) (-1 : Int32) n f14 lf1 wd ho ro pa1 rs E) := hD
    refine lv_aload_n hx hb dX3_follow_111 rfl (lv_at hl 0 rfl) ?_
    refine lv_iload_n hx hb dX3_follow_112 rfl (lv_at hl 2 rfl) ?_
    refine cx_callSi (va_runV (As := [.int p2]) (rest := []) ⟨hx, hb, hml, hown, hta⟩ (c_X3_leafFault l dC dI a k LP N L f1 f2 f3 f4 f5 f6 f7 f8 rd1 (nI b) (-1 : Int32) (-1 : Int32) n f14 lf1 wd ho ro pa1 rs E p2) (cwV 1 hta (gV aw_412 aw_414 aw_9 aw_40 aw_415) rfl rfl rfl (by decide +kernel) ⟨Nat.le_of_ble_eq_true rfl, Nat.le_of_ble_eq_true rfl⟩) (cx_preVS hK hP hN (va_recv hK hP (ci := 3) (q0 := 4) rfl rfl)) rfl rfl hl.1 rfl (lv_room (Nat.le_of_ble_eq_true rfl)) dX3_follow_113 ⟨Nat.le_of_ble_eq_true rfl, Nat.le_of_ble_eq_true rfl⟩) (fun r hw_4 => ?_)
    subst hw_4
    refine lv_istore (lv' := [(6, .int (mX3_leafFault (nI b) lf1 p2)), (0, .ref (a 4)), (2, .int p1), (3, .int p2), (4, .int fr), (5, .int (nI b))]) hx hb dX3_follow_116 hl (by decide) rfl (fun ls hl => ?_)
    refine lv_iload hx hb dX3_follow_118 (lv_at hl 0 rfl) ?_
    refine lv_if_eq (tgt := 139) hx hb dX3_follow_120 (by decide) (fun c_120_4 => ?_) (fun c_120_4 => ?_)
    · refine lv_aload_n hx hb dX3_follow_139 rfl (lv_at hl 1 rfl) ?_
      refine lv_aload_n hx hb dX3_follow_140 rfl (lv_at hl 1 rfl) ?_
      refine va_get (D := (dC, dI)) (ci := 3) (v := .ref (a 1)) (C := RX3) (T := TX3) (N := 8) hx hb hta inA_X3 hown hK hP 4 rfl rfl 0 (by decide) (hta _ aw_85) (fun _ h9 => h9) rfl dX3_follow_141 ?_
      refine lv_iload hx hb dX3_follow_144 (lv_at hl 4 rfl) ?_
      refine lv_aload_n hx hb dX3_follow_146 rfl (lv_at hl 1 rfl) ?_
      refine va_get (D := (dC, dI)) (ci := 3) (v := .int (nI b)) (C := RX3) (T := TX3) (N := 8) hx hb hta inA_X3 hown hK hP 4 rfl rfl 5 (by decide) (hta _ aw_92) (fun _ h9 => h9) rfl dX3_follow_147 ?_
      refine lv_iload_n hx hb dX3_follow_150 rfl (lv_at hl 2 rfl) ?_
      refine cx_callSi (va_runVN (As := [.int fr, .int (nI b), .int p1]) (rest := [.ref (a 4)]) ⟨hx, hb, hml, hown, hta⟩ (c_X2_reach l dC dI a k LP N L f1 f2 f3 f4 f5 f6 f7 f8 rd1 (nI b) (-1 : Int32) (-1 : Int32) n f14 lf1 wd ho ro pa1 rs E fr (nI b) p1) ⟨va_cnB 3 hta (gC aw_423) rfl rfl rfl (hN.nm 13 rfl) (hta _ aw_39) (by decide +kernel) ⟨Nat.le_of_ble_eq_true rfl, Nat.le_of_ble_eq_true rfl⟩, (hta _ aw_422), (hta _ aw_10)⟩ (cx_preVS hK hP hN (va_recv hK hP (ci := 2) (q0 := 1) rfl rfl)) rfl rfl hl.1 rfl (lv_room (Nat.le_of_ble_eq_true rfl)) dX3_follow_151 ⟨Nat.le_of_ble_eq_true rfl, Nat.le_of_ble_eq_true rfl⟩) (fun r hw_6 => ?_)
      subst hw_6
      refine va_put (D := (dC, dI)) (ci := 3) (v := .int (mX2_reach f8 ho fr (nI b) p1)) (ty := .int) (C := RX3) (T := TX3) (N := 8) hx hb hta inA_X3 tyX3 tyX3_ok nmX3 hown hK hP hD hS 4 rfl rfl 7 (by decide) (hta _ aw_96) (fun _ h9 => h9) rfl (by decide +kernel) rfl rfl (Nat.le_of_ble_eq_true rfl) dX3_follow_154 (fun H locs hP hD hS => ?_)
      have hP : va_P (dC, dI) vwCl (CWl a k LP N L f1 f2 f3 f4 f5 f6 f7 f8 rd1 (nI b) (-1 : Int32) (mX2_reach f8 ho fr (nI b) p1) n f14 lf1 wd ho ro pa1 rs E) H := hP
      have hD : va_D A (CWl a k LP N L f1 f2 f3 f4 f5 f6 f7 f8 rd1 (nI b) (-1 : Int32) (mX2_reach f8 ho fr (nI b) p1) n f14 lf1 wd ho ro pa1 rs E) := hD
      refine lv_aload_n hx hb dX3_follow_157 rfl (lv_at hl 1 rfl) ?_
      refine va_get (D := (dC, dI)) (ci := 3) (v := .int (mX2_reach f8 ho fr (nI b) p1)) (C := RX3) (T := TX3) (N := 8) hx hb hta inA_X3 hown hK hP 4 rfl rfl 7 (by decide) (hta _ aw_96) (fun _ h9 => h9) rfl dX3_follow_158 ?_
      refine lv_iconst (v := (-1)) hx hb dX3_follow_161 (by decide) ?_
      refine lv_icmp_ne (tgt := 178) hx hb dX3_follow_162 (by decide) (fun c_162_6 => ?_) (fun c_162_6 => ?_)
      · refine lv_iconst (v := 0) hx hb dX3_follow_178 (by decide) ?_
        exact W.iret (v := (0 : Int32)) hx hb hr (fun t ht hW => ⟨⟨(0 : Int32), (rd1, lf1, nI b, (-1 : Int32), mX2_reach f8 ho fr (nI b) p1, pa1), rfl, (by rw [hm]; unfold mFolT; rewrite [if_pos c_120_4]; rewrite [if_neg c_162_6]; (first | done | rfl)), by rw [ht]; exact hP, va_K.moved hW.alike hK, hD⟩, hS.F ht⟩) hS.2.2 dX3_follow_179
      · refine lv_aload_n hx hb dX3_follow_165 rfl (lv_at hl 1 rfl) ?_
        refine lv_bipush (v := 6) hx hb dX3_follow_166 (by decide) ?_
        refine lv_aload_n hx hb dX3_follow_168 rfl (lv_at hl 1 rfl) ?_
        refine va_get (D := (dC, dI)) (ci := 3) (v := .int (nI L)) (C := RX3) (T := TX3) (N := 8) hx hb hta inA_X3 hown hK hP 4 rfl rfl 1 (by decide) (hta _ aw_86) (fun _ h9 => h9) rfl dX3_follow_169 ?_
        have hFc : ∀ q, va_A (CWl a k LP N L f1 f2 f3 f4 f5 f6 f7 f8 rd1 (nI b) (-1 : Int32) (mX2_reach f8 ho fr (nI b) p1) n f14 lf1 wd ho ro pa1 rs E) H.size q → A q := cx_free hD hS hA
        refine va_calli (va_runV (As := [.int (6 : Int32), .int (nI L)]) (rest := []) ⟨hx, hb, hml, hown, hta⟩ (c_X3_stop l dC dI a k LP N L f1 f2 f3 f4 f5 f6 f7 f8 rd1 (nI b) (-1 : Int32) (mX2_reach f8 ho fr (nI b) p1) n f14 lf1 wd ho ro pa1 rs E H.size (6 : Int32) (nI L)) (cwV 2 hta (gV aw_395 aw_397 aw_6 aw_40 aw_398) rfl rfl rfl (by decide +kernel) ⟨Nat.le_of_ble_eq_true rfl, Nat.le_of_ble_eq_true rfl⟩) (cx_preVQ hK hP hN (va_recv hK hP (ci := 3) (q0 := 4) rfl rfl) hD) rfl rfl hl.1 rfl (lv_room (Nat.le_of_ble_eq_true rfl)) dX3_follow_172 ⟨Nat.le_of_ble_eq_true rfl, Nat.le_of_ble_eq_true rfl⟩) hS (fun q _ h => hFc q h) hFc (fun r_8 u t9 H1 locs ht hvm hw_8 hB hz1 hk1 hS => ?_)
        obtain ⟨f11_8, rfl⟩ : ∃ z, z = u := ⟨_, rfl⟩
        obtain ⟨hP, hK1, hD1⟩ := hB
        rw [ht] at hP
        have hD := hD1.weaken (fun _ _ _ h => hFc _ h)
        clear hFc hz1 hk1 hK1 hD1 ht hvm
        generalize H1 = H at hP hS ⊢
        have hP : va_P (dC, dI) vwCl (CWl a k LP N L f1 f2 f3 f4 f5 f6 f7 f8 rd1 (nI b) f11_8 (mX2_reach f8 ho fr (nI b) p1) n f14 lf1 wd ho ro pa1 rs E) H := hP
        have hD : va_D A (CWl a k LP N L f1 f2 f3 f4 f5 f6 f7 f8 rd1 (nI b) f11_8 (mX2_reach f8 ho fr (nI b) p1) n f14 lf1 wd ho ro pa1 rs E) := hD
        refine lv_goto (tgt := 179) hx hb dX3_follow_175 (by decide) ?_
        exact W.iret (v := r_8) hx hb hr (fun t ht hW => ⟨⟨r_8, (rd1, lf1, nI b, f11_8, mX2_reach f8 ho fr (nI b) p1, pa1), rfl, (by rw [hm]; unfold mFolT; rewrite [if_pos c_120_4]; rewrite [if_pos c_162_6]; cases hw_8; (first | done | rfl)), by rw [ht]; exact hP, va_K.moved hW.alike hK, hD⟩, hS.F ht⟩) hS.2.2 dX3_follow_179
    · refine lv_aload_n hx hb dX3_follow_123 rfl (lv_at hl 1 rfl) ?_
      refine lv_iload hx hb dX3_follow_124 (lv_at hl 0 rfl) ?_
      refine lv_aload_n hx hb dX3_follow_126 rfl (lv_at hl 1 rfl) ?_
      refine va_get (D := (dC, dI)) (ci := 3) (v := .int (nI L)) (C := RX3) (T := TX3) (N := 8) hx hb hta inA_X3 hown hK hP 4 rfl rfl 1 (by decide) (hta _ aw_86) (fun _ h9 => h9) rfl dX3_follow_127 ?_
      refine lv_iconst (v := 1) hx hb dX3_follow_130 (by decide) ?_
      refine lv_isub hx hb dX3_follow_131 ?_
      refine lv_iload hx hb dX3_follow_132 (lv_at hl 5 rfl) ?_
      refine lv_isub hx hb dX3_follow_134 ?_
      have hFc : ∀ q, va_A (CWl a k LP N L f1 f2 f3 f4 f5 f6 f7 f8 rd1 (nI b) (-1 : Int32) (-1 : Int32) n f14 lf1 wd ho ro pa1 rs E) H.size q → A q := cx_free hD hS hA
      refine va_calli (va_runV (As := [.int (mX3_leafFault (nI b) lf1 p2), .int (((nI L) - (1 : Int32)) - (nI b))]) (rest := []) ⟨hx, hb, hml, hown, hta⟩ (c_X3_stop l dC dI a k LP N L f1 f2 f3 f4 f5 f6 f7 f8 rd1 (nI b) (-1 : Int32) (-1 : Int32) n f14 lf1 wd ho ro pa1 rs E H.size (mX3_leafFault (nI b) lf1 p2) (((nI L) - (1 : Int32)) - (nI b))) (cwV 2 hta (gV aw_395 aw_397 aw_6 aw_40 aw_398) rfl rfl rfl (by decide +kernel) ⟨Nat.le_of_ble_eq_true rfl, Nat.le_of_ble_eq_true rfl⟩) (cx_preVQ hK hP hN (va_recv hK hP (ci := 3) (q0 := 4) rfl rfl) hD) rfl rfl hl.1 rfl (lv_room (Nat.le_of_ble_eq_true rfl)) dX3_follow_135 ⟨Nat.le_of_ble_eq_true rfl, Nat.le_of_ble_eq_true rfl⟩) hS (fun q _ h => hFc q h) hFc (fun r_9 u t9 H1 locs ht hvm hw_9 hB hz1 hk1 hS => ?_)
      obtain ⟨f11_9, rfl⟩ : ∃ z, z = u := ⟨_, rfl⟩
      obtain ⟨hP, hK1, hD1⟩ := hB
      rw [ht] at hP
      have hD := hD1.weaken (fun _ _ _ h => hFc _ h)
      clear hFc hz1 hk1 hK1 hD1 ht hvm
      generalize H1 = H at hP hS ⊢
      have hP : va_P (dC, dI) vwCl (CWl a k LP N L f1 f2 f3 f4 f5 f6 f7 f8 rd1 (nI b) f11_9 (-1 : Int32) n f14 lf1 wd ho ro pa1 rs E) H := hP
      have hD : va_D A (CWl a k LP N L f1 f2 f3 f4 f5 f6 f7 f8 rd1 (nI b) f11_9 (-1 : Int32) n f14 lf1 wd ho ro pa1 rs E) := hD
      exact W.iret (v := r_9) hx hb hr (fun t ht hW => ⟨⟨r_9, (rd1, lf1, nI b, f11_9, (-1 : Int32), pa1), rfl, (by rw [hm]; unfold mFolT; rewrite [if_neg c_120_4]; cases hw_9; (first | done | rfl)), by rw [ht]; exact hP, va_K.moved hW.alike hK, hD⟩, hS.F ht⟩) hS.2.2 dX3_follow_138
  have loop : ∀ (b x : Nat) (fr : Int32) (rd1 : Nat) (lf1 : Int64) (pa1 : Nat → Int32), x = b + 1 → rd1 + b < 4 → ¬ fr < 0 → mFol L f8 wd ho f10 lf pa p0 p1 p2 = mFolL L f8 wd ho p1 p2 f10 b fr rd1 lf1 pa1 → ∀ (H : Heap) (locs : List Loc), va_P (dC, dI) vwCl (CWl a k LP N L f1 f2 f3 f4 f5 f6 f7 f8 rd1 f10 (-1 : Int32) (-1 : Int32) n f14 lf1 wd ho ro pa1 rs E) H → va_D A (CWl a k LP N L f1 f2 f3 f4 f5 f6 f7 f8 rd1 f10 (-1 : Int32) (-1 : Int32) n f14 lf1 wd ho ro pa1 rs E) → va_S A s.heap H locs → ∀ (ls : Array Slot), lv_has ls 7 [(5, .int (nI x)), (4, .int fr), (0, .ref (a 4)), (2, .int p1), (3, .int p2)] → W p l e ({ frames := 2, cells := 0, slots := 0, locals := 46 }) s m [.ref (a 4), .int p0, .int p1, .int p2].toArray below meth c H locs 0 0 (MQ below (va_Qi (fun (r : Int32) (u : Nat × Int64 × Int32 × Int32 × Int32 × (Nat → Int32)) => (r, u) = mFol L f8 wd ho f10 lf pa p0 p1 p2) (fun (u : Nat × Int64 × Int32 × Int32 × Int32 × (Nat → Int32)) (t : State) => match u with | (rd', lf', f10', f11', f12', pa') => va_P (dC, dI) vwCl (CWl a k LP N L f1 f2 f3 f4 f5 f6 f7 f8 rd' f10' f11' f12' n f14 lf' wd ho ro pa' rs E) t.heap ∧ va_K (dC, dI) vwCl [(k 0, .long), (k 1, .int), (k 2, .int), (k 3, .object "PageRows$Entry"), (k 4, .int)] t ∧ va_D A (CWl a k LP N L f1 f2 f3 f4 f5 f6 f7 f8 rd' f10' f11' f12' n f14 lf' wd ho ro pa' rs E)) A) [.ref (a 4), .int p0, .int p1, .int p2].toArray s 0 0 A) (F0 m 39 ls []) := by
    intro b
    induction b with
    | zero =>
      intro x fr rd1 lf1 pa1 hxb hrd hfr hm H locs hP hD hS ls hl
      refine lv_iinc (v := nI 0) (lv' := [(5, .int (nI 0)), (4, .int fr), (0, .ref (a 4)), (2, .int p1), (3, .int p2)]) hx hb dX3_follow_39 hl (k := 0) rfl (by rw [hxb]; exact cx_dec 0 rfl) (by decide) rfl (fun ls hl => ?_)
      refine lv_aload_n hx hb dX3_follow_42 rfl (lv_at hl 2 rfl) ?_
      refine lv_iload hx hb dX3_follow_43 (lv_at hl 1 rfl) ?_
      refine lv_iload_n hx hb dX3_follow_45 rfl (lv_at hl 3 rfl) ?_
      refine lv_iload hx hb dX3_follow_46 (lv_at hl 0 rfl) ?_
      refine cx_callSi (va_runSN (As := [.int (nI 0)]) (rest := [.int p1, .int fr, .ref (a 4)]) ⟨hx, hb, hml, hown, hta⟩ (c_X4_bitsBelow l (nI 0)) ⟨va_cnB 1 hta (gC aw_372) rfl rfl rfl (hN.nm 8 rfl) (hta _ aw_38) (by decide +kernel) ⟨Nat.le_of_ble_eq_true rfl, Nat.le_of_ble_eq_true rfl⟩, (hta _ aw_371), trivial⟩ cx_pre0 rfl rfl hl.1 rfl (lv_room (Nat.le_of_ble_eq_true rfl)) dX3_follow_48 ⟨Nat.le_of_ble_eq_true rfl, Nat.le_of_ble_eq_true rfl⟩) (fun r hw_10 => ?_)
      subst hw_10
      refine lv_ishr hx hb dX3_follow_51 ?_
      have hFc : ∀ q, va_A (CWl a k LP N L f1 f2 f3 f4 f5 f6 f7 f8 rd1 f10 (-1 : Int32) (-1 : Int32) n f14 lf1 wd ho ro pa1 rs E) H.size q → A q := cx_free hD hS hA
      refine va_calli (va_runV (As := [.int fr, .int (p1 >>> ((mX4_bitsBelow (nI 0)) &&& 31))]) (rest := []) ⟨hx, hb, hml, hown, hta⟩ (c_X3_read l dC dI a k LP N L f1 f2 f3 f4 f5 f6 f7 f8 rd1 f10 (-1 : Int32) (-1 : Int32) n f14 lf1 wd ho ro pa1 rs E H.size fr (p1 >>> ((mX4_bitsBelow (nI 0)) &&& 31)) (home_ok hho hfr) (by omega)) (cwV 2 hta (gV aw_399 aw_401 aw_7 aw_40 aw_402) rfl rfl rfl (by decide +kernel) ⟨Nat.le_of_ble_eq_true rfl, Nat.le_of_ble_eq_true rfl⟩) (cx_preVQ hK hP hN (va_recv hK hP (ci := 3) (q0 := 4) rfl rfl) hD) rfl rfl hl.1 rfl (lv_room (Nat.le_of_ble_eq_true rfl)) dX3_follow_52 ⟨Nat.le_of_ble_eq_true rfl, Nat.le_of_ble_eq_true rfl⟩) hS (fun q _ h => hFc q h) hFc (fun r_11 u t9 H1 locs ht hvm hw_11 hB hz1 hk1 hS => ?_)
      obtain ⟨rd_11, lf_11, pa_11⟩ := u
      obtain ⟨hP, hK1, hD1⟩ := hB
      rw [ht] at hP
      have hD := hD1.weaken (fun _ _ _ h => hFc _ h)
      clear hFc hz1 hk1 hK1 hD1 ht hvm
      generalize H1 = H at hP hS ⊢
      have hP : va_P (dC, dI) vwCl (CWl a k LP N L f1 f2 f3 f4 f5 f6 f7 f8 rd_11 f10 (-1 : Int32) (-1 : Int32) n f14 lf_11 wd ho ro pa_11 rs E) H := hP
      have hD : va_D A (CWl a k LP N L f1 f2 f3 f4 f5 f6 f7 f8 rd_11 f10 (-1 : Int32) (-1 : Int32) n f14 lf_11 wd ho ro pa_11 rs E) := hD
      refine lv_istore (lv' := [(6, .int r_11), (5, .int (nI 0)), (4, .int fr), (0, .ref (a 4)), (2, .int p1), (3, .int p2)]) hx hb dX3_follow_55 hl (by decide) rfl (fun ls hl => ?_)
      refine lv_iload hx hb dX3_follow_57 (lv_at hl 0 rfl) ?_
      refine lv_if_eq (tgt := 78) hx hb dX3_follow_59 (by decide) (fun c_59_11 => ?_) (fun c_59_11 => ?_)
      · refine lv_aload_n hx hb dX3_follow_78 rfl (lv_at hl 3 rfl) ?_
        refine va_get (D := (dC, dI)) (ci := 3) (v := .long lf_11) (C := RX3) (T := TX3) (N := 8) hx hb hta inA_X3 hown hK hP 4 rfl rfl 4 (by decide) (hta _ aw_90) (fun _ h9 => h9) rfl dX3_follow_79 ?_
        refine cx_callSi (va_runSN (As := [.long lf_11]) (rest := []) ⟨hx, hb, hml, hown, hta⟩ (c_X4_frameOf l lf_11) ⟨va_cnB 1 hta (gC aw_409) rfl rfl rfl (hN.nm 10 rfl) (hta _ aw_38) (by decide +kernel) ⟨Nat.le_of_ble_eq_true rfl, Nat.le_of_ble_eq_true rfl⟩, (hta _ aw_408), trivial⟩ cx_pre0 rfl rfl hl.1 rfl (lv_room (Nat.le_of_ble_eq_true rfl)) dX3_follow_82 ⟨Nat.le_of_ble_eq_true rfl, Nat.le_of_ble_eq_true rfl⟩) (fun r hw_13 => ?_)
        subst hw_13
        refine lv_istore (lv' := [(4, .int (mX4_frameOf lf_11)), (6, .int r_11), (5, .int (nI 0)), (0, .ref (a 4)), (2, .int p1), (3, .int p2)]) hx hb dX3_follow_85 hl (by decide) rfl (fun ls hl => ?_)
        refine lv_iload hx hb dX3_follow_87 (lv_at hl 2 rfl) ?_
        refine lv_if_le (tgt := 105) hx hb dX3_follow_89 (by decide) (fun c_89_13 => ?_) (fun c_89_13 => ?_)
        · exact tail 0 _ _ _ _ _ (by rewrite [hm, mFolL]; rewrite [← hw_11]; (try dsimp only); rewrite [if_pos c_59_11]; (first | done | rfl)) H locs hP hD hS ls (lv_sub hl [3, 4, 5, 0, 2] rfl)
        · exact absurd (show nI 0 ≤ 0 by decide) c_89_13
      · refine lv_aload_n hx hb dX3_follow_62 rfl (lv_at hl 3 rfl) ?_
        refine lv_iload hx hb dX3_follow_63 (lv_at hl 0 rfl) ?_
        refine lv_aload_n hx hb dX3_follow_65 rfl (lv_at hl 3 rfl) ?_
        refine va_get (D := (dC, dI)) (ci := 3) (v := .int (nI L)) (C := RX3) (T := TX3) (N := 8) hx hb hta inA_X3 hown hK hP 4 rfl rfl 1 (by decide) (hta _ aw_86) (fun _ h9 => h9) rfl dX3_follow_66 ?_
        refine lv_iconst (v := 1) hx hb dX3_follow_69 (by decide) ?_
        refine lv_isub hx hb dX3_follow_70 ?_
        refine lv_iload hx hb dX3_follow_71 (lv_at hl 1 rfl) ?_
        refine lv_isub hx hb dX3_follow_73 ?_
        have hFc : ∀ q, va_A (CWl a k LP N L f1 f2 f3 f4 f5 f6 f7 f8 rd_11 f10 (-1 : Int32) (-1 : Int32) n f14 lf_11 wd ho ro pa_11 rs E) H.size q → A q := cx_free hD hS hA
        refine va_calli (va_runV (As := [.int r_11, .int (((nI L) - (1 : Int32)) - (nI 0))]) (rest := []) ⟨hx, hb, hml, hown, hta⟩ (c_X3_stop l dC dI a k LP N L f1 f2 f3 f4 f5 f6 f7 f8 rd_11 f10 (-1 : Int32) (-1 : Int32) n f14 lf_11 wd ho ro pa_11 rs E H.size r_11 (((nI L) - (1 : Int32)) - (nI 0))) (cwV 2 hta (gV aw_395 aw_397 aw_6 aw_40 aw_398) rfl rfl rfl (by decide +kernel) ⟨Nat.le_of_ble_eq_true rfl, Nat.le_of_ble_eq_true rfl⟩) (cx_preVQ hK hP hN (va_recv hK hP (ci := 3) (q0 := 4) rfl rfl) hD) rfl rfl hl.1 rfl (lv_room (Nat.le_of_ble_eq_true rfl)) dX3_follow_74 ⟨Nat.le_of_ble_eq_true rfl, Nat.le_of_ble_eq_true rfl⟩) hS (fun q _ h => hFc q h) hFc (fun r_15 u t9 H1 locs ht hvm hw_15 hB hz1 hk1 hS => ?_)
        obtain ⟨f11_15, rfl⟩ : ∃ z, z = u := ⟨_, rfl⟩
        obtain ⟨hP, hK1, hD1⟩ := hB
        rw [ht] at hP
        have hD := hD1.weaken (fun _ _ _ h => hFc _ h)
        clear hFc hz1 hk1 hK1 hD1 ht hvm
        generalize H1 = H at hP hS ⊢
        have hP : va_P (dC, dI) vwCl (CWl a k LP N L f1 f2 f3 f4 f5 f6 f7 f8 rd_11 f10 f11_15 (-1 : Int32) n f14 lf_11 wd ho ro pa_11 rs E) H := hP
        have hD : va_D A (CWl a k LP N L f1 f2 f3 f4 f5 f6 f7 f8 rd_11 f10 f11_15 (-1 : Int32) n f14 lf_11 wd ho ro pa_11 rs E) := hD
        exact W.iret (v := r_15) hx hb hr (fun t ht hW => ⟨⟨r_15, (rd_11, lf_11, f10, f11_15, (-1 : Int32), pa_11), rfl, (by cases hw_15; rewrite [hm, mFolL]; rewrite [← hw_11]; (try dsimp only); rewrite [if_neg c_59_11]; (try dsimp only); (first | done | rfl)), by rw [ht]; exact hP, va_K.moved hW.alike hK, hD⟩, hS.F ht⟩) hS.2.2 dX3_follow_77
    | succ b ih =>
      intro x fr rd1 lf1 pa1 hxb hrd hfr hm H locs hP hD hS ls hl
      refine lv_iinc (v := nI (b + 1)) (lv' := [(5, .int (nI (b + 1))), (4, .int fr), (0, .ref (a 4)), (2, .int p1), (3, .int p2)]) hx hb dX3_follow_39 hl (k := 0) rfl (by rw [hxb]; exact cx_dec (b + 1) rfl) (by decide) rfl (fun ls hl => ?_)
      refine lv_aload_n hx hb dX3_follow_42 rfl (lv_at hl 2 rfl) ?_
      refine lv_iload hx hb dX3_follow_43 (lv_at hl 1 rfl) ?_
      refine lv_iload_n hx hb dX3_follow_45 rfl (lv_at hl 3 rfl) ?_
      refine lv_iload hx hb dX3_follow_46 (lv_at hl 0 rfl) ?_
      refine cx_callSi (va_runSN (As := [.int (nI (b + 1))]) (rest := [.int p1, .int fr, .ref (a 4)]) ⟨hx, hb, hml, hown, hta⟩ (c_X4_bitsBelow l (nI (b + 1))) ⟨va_cnB 1 hta (gC aw_372) rfl rfl rfl (hN.nm 8 rfl) (hta _ aw_38) (by decide +kernel) ⟨Nat.le_of_ble_eq_true rfl, Nat.le_of_ble_eq_true rfl⟩, (hta _ aw_371), trivial⟩ cx_pre0 rfl rfl hl.1 rfl (lv_room (Nat.le_of_ble_eq_true rfl)) dX3_follow_48 ⟨Nat.le_of_ble_eq_true rfl, Nat.le_of_ble_eq_true rfl⟩) (fun r hw_16 => ?_)
      subst hw_16
      refine lv_ishr hx hb dX3_follow_51 ?_
      have hFc : ∀ q, va_A (CWl a k LP N L f1 f2 f3 f4 f5 f6 f7 f8 rd1 f10 (-1 : Int32) (-1 : Int32) n f14 lf1 wd ho ro pa1 rs E) H.size q → A q := cx_free hD hS hA
      refine va_calli (va_runV (As := [.int fr, .int (p1 >>> ((mX4_bitsBelow (nI (b + 1))) &&& 31))]) (rest := []) ⟨hx, hb, hml, hown, hta⟩ (c_X3_read l dC dI a k LP N L f1 f2 f3 f4 f5 f6 f7 f8 rd1 f10 (-1 : Int32) (-1 : Int32) n f14 lf1 wd ho ro pa1 rs E H.size fr (p1 >>> ((mX4_bitsBelow (nI (b + 1))) &&& 31)) (home_ok hho hfr) (by omega)) (cwV 2 hta (gV aw_399 aw_401 aw_7 aw_40 aw_402) rfl rfl rfl (by decide +kernel) ⟨Nat.le_of_ble_eq_true rfl, Nat.le_of_ble_eq_true rfl⟩) (cx_preVQ hK hP hN (va_recv hK hP (ci := 3) (q0 := 4) rfl rfl) hD) rfl rfl hl.1 rfl (lv_room (Nat.le_of_ble_eq_true rfl)) dX3_follow_52 ⟨Nat.le_of_ble_eq_true rfl, Nat.le_of_ble_eq_true rfl⟩) hS (fun q _ h => hFc q h) hFc (fun r_17 u t9 H1 locs ht hvm hw_17 hB hz1 hk1 hS => ?_)
      obtain ⟨rd_17, lf_17, pa_17⟩ := u
      obtain ⟨hP, hK1, hD1⟩ := hB
      rw [ht] at hP
      have hD := hD1.weaken (fun _ _ _ h => hFc _ h)
      clear hFc hz1 hk1 hK1 hD1 ht hvm
      generalize H1 = H at hP hS ⊢
      have hP : va_P (dC, dI) vwCl (CWl a k LP N L f1 f2 f3 f4 f5 f6 f7 f8 rd_17 f10 (-1 : Int32) (-1 : Int32) n f14 lf_17 wd ho ro pa_17 rs E) H := hP
      have hD : va_D A (CWl a k LP N L f1 f2 f3 f4 f5 f6 f7 f8 rd_17 f10 (-1 : Int32) (-1 : Int32) n f14 lf_17 wd ho ro pa_17 rs E) := hD
      refine lv_istore (lv' := [(6, .int r_17), (5, .int (nI (b + 1))), (4, .int fr), (0, .ref (a 4)), (2, .int p1), (3, .int p2)]) hx hb dX3_follow_55 hl (by decide) rfl (fun ls hl => ?_)
      refine lv_iload hx hb dX3_follow_57 (lv_at hl 0 rfl) ?_
      refine lv_if_eq (tgt := 78) hx hb dX3_follow_59 (by decide) (fun c_59_17 => ?_) (fun c_59_17 => ?_)
      · refine lv_aload_n hx hb dX3_follow_78 rfl (lv_at hl 3 rfl) ?_
        refine va_get (D := (dC, dI)) (ci := 3) (v := .long lf_17) (C := RX3) (T := TX3) (N := 8) hx hb hta inA_X3 hown hK hP 4 rfl rfl 4 (by decide) (hta _ aw_90) (fun _ h9 => h9) rfl dX3_follow_79 ?_
        refine cx_callSi (va_runSN (As := [.long lf_17]) (rest := []) ⟨hx, hb, hml, hown, hta⟩ (c_X4_frameOf l lf_17) ⟨va_cnB 1 hta (gC aw_409) rfl rfl rfl (hN.nm 10 rfl) (hta _ aw_38) (by decide +kernel) ⟨Nat.le_of_ble_eq_true rfl, Nat.le_of_ble_eq_true rfl⟩, (hta _ aw_408), trivial⟩ cx_pre0 rfl rfl hl.1 rfl (lv_room (Nat.le_of_ble_eq_true rfl)) dX3_follow_82 ⟨Nat.le_of_ble_eq_true rfl, Nat.le_of_ble_eq_true rfl⟩) (fun r hw_19 => ?_)
        subst hw_19
        refine lv_istore (lv' := [(4, .int (mX4_frameOf lf_17)), (6, .int r_17), (5, .int (nI (b + 1))), (0, .ref (a 4)), (2, .int p1), (3, .int p2)]) hx hb dX3_follow_85 hl (by decide) rfl (fun ls hl => ?_)
        refine lv_iload hx hb dX3_follow_87 (lv_at hl 2 rfl) ?_
        refine lv_if_le (tgt := 105) hx hb dX3_follow_89 (by decide) (fun c_89_19 => ?_) (fun c_89_19 => ?_)
        · exact absurd c_89_19 (nI_nle (by omega) (by omega))
        · refine lv_aload_n hx hb dX3_follow_92 rfl (lv_at hl 3 rfl) ?_
          refine va_get (D := (dC, dI)) (ci := 3) (v := .long lf_17) (C := RX3) (T := TX3) (N := 8) hx hb hta inA_X3 hown hK hP 4 rfl rfl 4 (by decide) (hta _ aw_90) (fun _ h9 => h9) rfl dX3_follow_93 ?_
          refine lv_ldc2 (v := 32) hx hb hown (hta _ aw_411) dX3_follow_96 ?_
          refine lv_land hx hb dX3_follow_99 ?_
          refine lv_lconst (v := 0) hx hb dX3_follow_100 (by decide) ?_
          refine W.lcmp hx hb dX3_follow_101 ?_
          refine lv_if_eq (tgt := 39) hx hb dX3_follow_102 (by decide) (fun c_102_20 => ?_) (fun c_102_20 => ?_)
          · have hr9 := read_rd hw_17
            exact ih _ _ _ _ _ rfl (by omega) (frameOf_nn _) (by rewrite [hm, mFolL]; rewrite [← hw_17]; (try dsimp only); rewrite [if_pos c_59_17]; rewrite [if_pos c_102_20]; (first | done | rfl)) H locs hP hD hS ls (lv_sub hl [2, 0, 3, 4, 5] rfl)
          · exact tail (b + 1) _ _ _ _ _ (by rewrite [hm, mFolL]; rewrite [← hw_17]; (try dsimp only); rewrite [if_pos c_59_17]; rewrite [if_neg c_102_20]; (first | done | rfl)) H locs hP hD hS ls (lv_sub hl [3, 4, 5, 0, 2] rfl)
      · refine lv_aload_n hx hb dX3_follow_62 rfl (lv_at hl 3 rfl) ?_
        refine lv_iload hx hb dX3_follow_63 (lv_at hl 0 rfl) ?_
        refine lv_aload_n hx hb dX3_follow_65 rfl (lv_at hl 3 rfl) ?_
        refine va_get (D := (dC, dI)) (ci := 3) (v := .int (nI L)) (C := RX3) (T := TX3) (N := 8) hx hb hta inA_X3 hown hK hP 4 rfl rfl 1 (by decide) (hta _ aw_86) (fun _ h9 => h9) rfl dX3_follow_66 ?_
        refine lv_iconst (v := 1) hx hb dX3_follow_69 (by decide) ?_
        refine lv_isub hx hb dX3_follow_70 ?_
        refine lv_iload hx hb dX3_follow_71 (lv_at hl 1 rfl) ?_
        refine lv_isub hx hb dX3_follow_73 ?_
        have hFc : ∀ q, va_A (CWl a k LP N L f1 f2 f3 f4 f5 f6 f7 f8 rd_17 f10 (-1 : Int32) (-1 : Int32) n f14 lf_17 wd ho ro pa_17 rs E) H.size q → A q := cx_free hD hS hA
        refine va_calli (va_runV (As := [.int r_17, .int (((nI L) - (1 : Int32)) - (nI (b + 1)))]) (rest := []) ⟨hx, hb, hml, hown, hta⟩ (c_X3_stop l dC dI a k LP N L f1 f2 f3 f4 f5 f6 f7 f8 rd_17 f10 (-1 : Int32) (-1 : Int32) n f14 lf_17 wd ho ro pa_17 rs E H.size r_17 (((nI L) - (1 : Int32)) - (nI (b + 1)))) (cwV 2 hta (gV aw_395 aw_397 aw_6 aw_40 aw_398) rfl rfl rfl (by decide +kernel) ⟨Nat.le_of_ble_eq_true rfl, Nat.le_of_ble_eq_true rfl⟩) (cx_preVQ hK hP hN (va_recv hK hP (ci := 3) (q0 := 4) rfl rfl) hD) rfl rfl hl.1 rfl (lv_room (Nat.le_of_ble_eq_true rfl)) dX3_follow_74 ⟨Nat.le_of_ble_eq_true rfl, Nat.le_of_ble_eq_true rfl⟩) hS (fun q _ h => hFc q h) hFc (fun r_22 u t9 H1 locs ht hvm hw_22 hB hz1 hk1 hS => ?_)
        obtain ⟨f11_22, rfl⟩ : ∃ z, z = u := ⟨_, rfl⟩
        obtain ⟨hP, hK1, hD1⟩ := hB
        rw [ht] at hP
        have hD := hD1.weaken (fun _ _ _ h => hFc _ h)
        clear hFc hz1 hk1 hK1 hD1 ht hvm
        generalize H1 = H at hP hS ⊢
        have hP : va_P (dC, dI) vwCl (CWl a k LP N L f1 f2 f3 f4 f5 f6 f7 f8 rd_17 f10 f11_22 (-1 : Int32) n f14 lf_17 wd ho ro pa_17 rs E) H := hP
        have hD : va_D A (CWl a k LP N L f1 f2 f3 f4 f5 f6 f7 f8 rd_17 f10 f11_22 (-1 : Int32) n f14 lf_17 wd ho ro pa_17 rs E) := hD
        exact W.iret (v := r_22) hx hb hr (fun t ht hW => ⟨⟨r_22, (rd_17, lf_17, f10, f11_22, (-1 : Int32), pa_17), rfl, (by cases hw_22; rewrite [hm, mFolL]; rewrite [← hw_17]; (try dsimp only); rewrite [if_neg c_59_17]; (try dsimp only); (first | done | rfl)), by rw [ht]; exact hP, va_K.moved hW.alike hK, hD⟩, hS.F ht⟩) hS.2.2 dX3_follow_77
  refine lv_aload_n hx hb dX3_follow_0 rfl (lv_at hl 0 rfl) ?_
  refine lv_iconst (v := 0) hx hb dX3_follow_1 (by decide) ?_
  refine va_put (D := (dC, dI)) (ci := 3) (v := .int (0 : Int32)) (ty := .int) (C := RX3) (T := TX3) (N := 8) hx hb hta inA_X3 tyX3 tyX3_ok nmX3 hown hK hP hD hS 4 rfl rfl 3 (by decide) (hta _ aw_88) (fun _ h9 => h9) rfl (by decide +kernel) rfl rfl (Nat.le_of_ble_eq_true rfl) dX3_follow_2 (fun H locs hP hD hS => ?_)
  have hP : va_P (dC, dI) vwCl (CWl a k LP N L f1 f2 f3 f4 f5 f6 f7 f8 0 f10 f11 f12 n f14 lf wd ho ro pa rs E) H := hP
  have hD : va_D A (CWl a k LP N L f1 f2 f3 f4 f5 f6 f7 f8 0 f10 f11 f12 n f14 lf wd ho ro pa rs E) := hD
  refine lv_aload_n hx hb dX3_follow_5 rfl (lv_at hl 0 rfl) ?_
  refine lv_iconst (v := (-1)) hx hb dX3_follow_6 (by decide) ?_
  refine va_put (D := (dC, dI)) (ci := 3) (v := .int (-1 : Int32)) (ty := .int) (C := RX3) (T := TX3) (N := 8) hx hb hta inA_X3 tyX3 tyX3_ok nmX3 hown hK hP hD hS 4 rfl rfl 6 (by decide) (hta _ aw_94) (fun _ h9 => h9) rfl (by decide +kernel) rfl rfl (Nat.le_of_ble_eq_true rfl) dX3_follow_7 (fun H locs hP hD hS => ?_)
  have hP : va_P (dC, dI) vwCl (CWl a k LP N L f1 f2 f3 f4 f5 f6 f7 f8 0 f10 (-1 : Int32) f12 n f14 lf wd ho ro pa rs E) H := hP
  have hD : va_D A (CWl a k LP N L f1 f2 f3 f4 f5 f6 f7 f8 0 f10 (-1 : Int32) f12 n f14 lf wd ho ro pa rs E) := hD
  refine lv_aload_n hx hb dX3_follow_10 rfl (lv_at hl 0 rfl) ?_
  refine lv_iconst (v := (-1)) hx hb dX3_follow_11 (by decide) ?_
  refine va_put (D := (dC, dI)) (ci := 3) (v := .int (-1 : Int32)) (ty := .int) (C := RX3) (T := TX3) (N := 8) hx hb hta inA_X3 tyX3 tyX3_ok nmX3 hown hK hP hD hS 4 rfl rfl 7 (by decide) (hta _ aw_96) (fun _ h9 => h9) rfl (by decide +kernel) rfl rfl (Nat.le_of_ble_eq_true rfl) dX3_follow_12 (fun H locs hP hD hS => ?_)
  have hP : va_P (dC, dI) vwCl (CWl a k LP N L f1 f2 f3 f4 f5 f6 f7 f8 0 f10 (-1 : Int32) (-1 : Int32) n f14 lf wd ho ro pa rs E) H := hP
  have hD : va_D A (CWl a k LP N L f1 f2 f3 f4 f5 f6 f7 f8 0 f10 (-1 : Int32) (-1 : Int32) n f14 lf wd ho ro pa rs E) := hD
  refine lv_aload_n hx hb dX3_follow_15 rfl (lv_at hl 0 rfl) ?_
  refine lv_iload_n hx hb dX3_follow_16 rfl (lv_at hl 2 rfl) ?_
  refine cx_callSi (va_runV (As := [.int p1]) (rest := []) ⟨hx, hb, hml, hown, hta⟩ (c_X3_isOutside l dC dI a k LP N L f1 f2 f3 f4 f5 f6 f7 f8 0 f10 (-1 : Int32) (-1 : Int32) n f14 lf wd ho ro pa rs E p1) (cwV 1 hta (gV aw_390 aw_392 aw_5 aw_40 aw_393) rfl rfl rfl (by decide +kernel) ⟨Nat.le_of_ble_eq_true rfl, Nat.le_of_ble_eq_true rfl⟩) (cx_preVS hK hP hN (va_recv hK hP (ci := 3) (q0 := 4) rfl rfl)) rfl rfl hl.1 rfl (lv_room (Nat.le_of_ble_eq_true rfl)) dX3_follow_17 ⟨Nat.le_of_ble_eq_true rfl, Nat.le_of_ble_eq_true rfl⟩) (fun r hw_1 => ?_)
  subst hw_1
  refine lv_if_eq (tgt := 30) hx hb dX3_follow_20 (by decide) (fun c_20_1 => ?_) (fun c_20_1 => ?_)
  · refine lv_iload_n hx hb dX3_follow_30 rfl (lv_at hl 1 rfl) ?_
    refine lv_istore (lv' := [(4, .int p0), (0, .ref (a 4)), (1, .int p0), (2, .int p1), (3, .int p2)]) hx hb dX3_follow_31 hl (by decide) rfl (fun ls hl => ?_)
    refine lv_aload_n hx hb dX3_follow_33 rfl (lv_at hl 1 rfl) ?_
    refine va_get (D := (dC, dI)) (ci := 3) (v := .int (nI L)) (C := RX3) (T := TX3) (N := 8) hx hb hta inA_X3 hown hK hP 4 rfl rfl 1 (by decide) (hta _ aw_86) (fun _ h9 => h9) rfl dX3_follow_34 ?_
    refine lv_istore (lv' := [(5, .int (nI L)), (4, .int p0), (0, .ref (a 4)), (1, .int p0), (2, .int p1), (3, .int p2)]) hx hb dX3_follow_37 hl (by decide) rfl (fun ls hl => ?_)
    exact loop (L - 1) L p0 0 lf pa (by omega) (by omega) hp0 (by unfold mFol; rewrite [if_pos c_20_1]; rfl) H locs hP hD hS ls (lv_sub hl [0, 1, 2, 4, 5] rfl)
  · refine lv_aload_n hx hb dX3_follow_23 rfl (lv_at hl 0 rfl) ?_
    refine lv_iconst (v := 1) hx hb dX3_follow_24 (by decide) ?_
    refine lv_iconst (v := 0) hx hb dX3_follow_25 (by decide) ?_
    have hFc : ∀ q, va_A (CWl a k LP N L f1 f2 f3 f4 f5 f6 f7 f8 0 f10 (-1 : Int32) (-1 : Int32) n f14 lf wd ho ro pa rs E) H.size q → A q := cx_free hD hS hA
    refine va_calli (va_runV (As := [.int (1 : Int32), .int (0 : Int32)]) (rest := []) ⟨hx, hb, hml, hown, hta⟩ (c_X3_stop l dC dI a k LP N L f1 f2 f3 f4 f5 f6 f7 f8 0 f10 (-1 : Int32) (-1 : Int32) n f14 lf wd ho ro pa rs E H.size (1 : Int32) (0 : Int32)) (cwV 2 hta (gV aw_395 aw_397 aw_6 aw_40 aw_398) rfl rfl rfl (by decide +kernel) ⟨Nat.le_of_ble_eq_true rfl, Nat.le_of_ble_eq_true rfl⟩) (cx_preVQ hK hP hN (va_recv hK hP (ci := 3) (q0 := 4) rfl rfl) hD) rfl rfl hl.1 rfl (lv_room (Nat.le_of_ble_eq_true rfl)) dX3_follow_26 ⟨Nat.le_of_ble_eq_true rfl, Nat.le_of_ble_eq_true rfl⟩) hS (fun q _ h => hFc q h) hFc (fun r_3 u t9 H1 locs ht hvm hw_3 hB hz1 hk1 hS => ?_)
    obtain ⟨f11_3, rfl⟩ : ∃ z, z = u := ⟨_, rfl⟩
    obtain ⟨hP, hK1, hD1⟩ := hB
    rw [ht] at hP
    have hD := hD1.weaken (fun _ _ _ h => hFc _ h)
    clear hFc hz1 hk1 hK1 hD1 ht hvm
    generalize H1 = H at hP hS ⊢
    have hP : va_P (dC, dI) vwCl (CWl a k LP N L f1 f2 f3 f4 f5 f6 f7 f8 0 f10 f11_3 (-1 : Int32) n f14 lf wd ho ro pa rs E) H := hP
    have hD : va_D A (CWl a k LP N L f1 f2 f3 f4 f5 f6 f7 f8 0 f10 f11_3 (-1 : Int32) n f14 lf wd ho ro pa rs E) := hD
    exact W.iret (v := r_3) hx hb hr (fun t ht hW => ⟨⟨r_3, (0, lf, f10, f11_3, (-1 : Int32), pa), rfl, (by cases hw_3; unfold mFol; rewrite [if_neg c_20_1]; rfl), by rw [ht]; exact hP, va_K.moved hW.alike hK, hD⟩, hS.F ht⟩) hS.2.2 dX3_follow_29
