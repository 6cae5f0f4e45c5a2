abbrev EST : Type := Nat × (Nat → Int32) × (Nat → Int32) × (Nat → Int32) × (Nat → Int32) × (Nat → Int32) × (Nat → Int32) × (Nat → Int32)
def mDropT (x : EST) (k : Nat) : EST := match x with
  | (en, eC, eL, eB, eF, eR, eU, eX) => mX5_drop en eC eL eB eF eR eU eX k
/-- keep's first loop: entries k-1 .. 0 with these three go -/
def mK1 (f1 lg bits : Int32) : Nat → EST → EST
  | 0, x => x
  | k + 1, x => if x.2.1 k = f1 then (if x.2.2.1 k = lg then (if x.2.2.2.1 k = bits then mK1 f1 lg bits k (mDropT x k) else mK1 f1 lg bits k x) else mK1 f1 lg bits k x) else mK1 f1 lg bits k x
def mOld (eU : Nat → Int32) : Nat → Nat → Nat → Nat
  | 0, _, o => o
  | j + 1, i, o => mOld eU j (i + 1) (if eU o ≤ eU i then o else i)
theorem mOld_lt (eU : Nat → Int32) : ∀ (j i o : Nat), o < i → mOld eU j i o < i + j
  | 0, i, o, h => by unfold mOld; omega
  | j + 1, i, o, h => by
    unfold mOld
    split
    · have := mOld_lt eU j (i + 1) o (by omega); omega
    · have := mOld_lt eU j (i + 1) i (by omega); omega
def mK3 (f1 lg bits : Int32) (leaf : Int64) (us : Nat) (f14 : Int32) (x : EST) : Nat × Nat × (Nat → Int32) × (Nat → Int32) × (Nat → Int32) × (Nat → Int32) × (Nat → Int32) × (Nat → Int32) × (Nat → Int32) × Int32 := match x with
  | (en, eC, eL, eB, eF, eR, eU, eX) => (en + 1, us + 1, upd eC en f1, upd eL en lg, upd eB en bits, upd eF en (mX5_frameOf leaf), upd eR en (mX5_rightsOf leaf), upd eU en (nI (us + 1)), upd eX en (if lg_cmp (leaf &&& (128 : Int64)) (0 : Int64) = 0 then (0 : Int32) else (1 : Int32)), f14)
def mKeep (N : Nat) (f1 lg bits : Int32) (leaf : Int64) (us : Nat) (f14 : Int32) (x : EST) : Nat × Nat × (Nat → Int32) × (Nat → Int32) × (Nat → Int32) × (Nat → Int32) × (Nat → Int32) × (Nat → Int32) × (Nat → Int32) × Int32 :=
  if x.1 = N then mK3 f1 lg bits leaf us (f14 + (1 : Int32)) (mDropT x (mOld x.2.2.2.2.2.2.1 (x.1 - 1) 1 0)) else mK3 f1 lg bits leaf us f14 x
def predI : Nat → Int32
  | 0 => (-1 : Int32)
  | k + 1 => nI k
theorem predI_eq (n : Nat) : nI n - (1 : Int32) = predI n := by
  cases n with
  | zero => decide
  | succ k => exact nI_pred k
theorem predI_dec {z : Int} (k : Nat) (h : Int32.ofInt z = -1) : nI k + Int32.ofInt z = predI k := by
  cases k with
  | zero => rw [h]; decide
  | succ k => rw [h]; exact pk_m1 k
theorem drop_ok {en en' : Nat} {eC eL eB eF eR eU eX eC' eL' eB' eF' eR' eU' eX' : Nat → Int32} {p0 : Nat} (h : (en', eC', eL', eB', eF', eR', eU', eX') = mX5_drop en eC eL eB eF eR eU eX p0) (hz : ∀ i, ZB (eX i)) : en' = en - 1 ∧ ∀ i, ZB (eX' i) := by
  unfold mX5_drop at h
  cases h
  exact ⟨rfl, ZB_upd hz (hz _)⟩

set_option maxHeartbeats 4000000 in
set_option maxRecDepth 100000 in
theorem c_X5_keep (l : Launch) (dC : Nat → ClassId) (dI : Nat → Nat → Nat) (ga : Nat → Nat) (gk : Nat → ClassId) (th : Int32) (L : Nat) (N : Nat) (mm : Nat → Int64) (f1 : Int32) (mr : Nat → Int32) (mh : Nat → Int32) (f8 : Int32) (en : Nat) (us : Nat) (eC : Nat → Int32) (eL : Nat → Int32) (eB : Nat → Int32) (eF : Nat → Int32) (eR : Nat → Int32) (eU : Nat → Int32) (eX : Nat → Int32) (f2 : Int32) (f3 : Int32) (f4 : Int32) (f5 : Int32) (f6 : Int32) (f7 : Int32) (f14 : Int32) (ff : Int32) (fa : Int32) (mn : Nat) (lg : Int32) (cm : Int32) (wa : Nat → Int32)  (sz : Nat) (p0 : Int32) (hen : en ≤ N) (h0N : 0 < N) (hN32 : N ≤ 32) (hmn1 : 1 ≤ mn) (hmn4 : mn ≤ 4) (hwal : vp_in (wa (mn - 1)) 4096) (hzx0 : ∀ i, ZB (eX i)) : Met l yX5_keep (wX5_keep :: AW) ({ frames := 1, cells := 0, slots := 0, locals := 21 }) (va_Pc [.ref (ga 0), .int p0] (CPrQ dC dI (MWl ga gk th L N mm f1 mr mh f8 en us eC eL eB eF eR eU eX f2 f3 f4 f5 f6 f7 f14 ff fa mn lg cm wa) [(gk 0, .long), (gk 1, .int), (gk 2, .int), (gk 3, .int), (gk 4, .int), (gk 5, .int), (gk 6, .int), (gk 7, .int), (gk 8, .int), (gk 9, .boolean), (gk 10, .int)] sz)) (va_Qv (fun (u : Nat × Nat × (Nat → Int32) × (Nat → Int32) × (Nat → Int32) × (Nat → Int32) × (Nat → Int32) × (Nat → Int32) × (Nat → Int32) × Int32) => u = mKeep N f1 lg (p0 >>> (((8 : Int32) + ((4 : Int32) * lg)) &&& 31)) (mm (wa (mn - 1)).toNatClampNeg) us f14 (mK1 f1 lg (p0 >>> (((8 : Int32) + ((4 : Int32) * lg)) &&& 31)) en (en, eC, eL, eB, eF, eR, eU, eX))) (fun (u : Nat × Nat × (Nat → Int32) × (Nat → Int32) × (Nat → Int32) × (Nat → Int32) × (Nat → Int32) × (Nat → Int32) × (Nat → Int32) × Int32) (t : State) => match u with | (en', us', eC', eL', eB', eF', eR', eU', eX', f14') => va_P (dC, dI) vwCl (MWl ga gk th L N mm f1 mr mh f8 en' us' eC' eL' eB' eF' eR' eU' eX' f2 f3 f4 f5 f6 f7 f14' ff fa mn lg cm wa) t.heap ∧ va_K (dC, dI) vwCl [(gk 0, .long), (gk 1, .int), (gk 2, .int), (gk 3, .int), (gk 4, .int), (gk 5, .int), (gk 6, .int), (gk 7, .int), (gk 8, .int), (gk 9, .boolean), (gk 10, .int)] t ∧ va_D (va_A (MWl ga gk th L N mm f1 mr mh f8 en us eC eL eB eF eR eU eX f2 f3 f4 f5 f6 f7 f14 ff fa mn lg cm wa) sz) (MWl ga gk th L N mm f1 mr mh f8 en' us' eC' eL' eB' eF' eR' eU' eX' f2 f3 f4 f5 f6 f7 f14' ff fa mn lg cm wa)) (va_A (MWl ga gk th L N mm f1 mr mh f8 en us eC eL eB eF eR eU eX f2 f3 f4 f5 f6 f7 f14 ff fa mn lg cm wa) sz)) 0 0 (va_A (MWl ga gk th L N mm f1 mr mh f8 en us eC eL eB eF eR eU eX f2 f3 f4 f5 f6 f7 f14 ff fa mn lg cm wa) sz) := by
  refine cx_of (cc := cX5_keep) (maxL := 5) (ret := none) (by decide) rfl (Nat.le_of_ble_eq_true rfl) ?_
  intro p e s m below meth c ls hx hb hr hts hown hlocks hml hnm hl hB
  have hta : ∀ w ∈ AW, w.before [.ref (ga 0), .int p0].toArray s = true := fun w h => hts w (List.mem_cons_of_mem _ h)
  have hl : lv_has ls 5 [(0, .ref (ga 0)), (1, .int p0)] := hl
  have hown : s.vm.findClass RX5 = some m.cls := hown
  obtain ⟨rfl, ⟨hP, hK, hN⟩, hD0⟩ := hB
  have hD := hD0.self (sz := s.heap.size)
  generalize hAe : va_A (MWl ga gk th L N mm f1 mr mh f8 en us eC eL eB eF eR eU eX f2 f3 f4 f5 f6 f7 f14 ff fa mn lg cm wa) s.heap.size = A at hD ⊢
  have hA : ∀ q : Nat, s.heap.size ≤ q → A q := fun q h => by rw [← hAe]; exact Or.inr h
  have hS : va_S A s.heap s.heap [] := va_S.rf
  have tail : ∀ (en1 : Nat) (eC1 eL1 eB1 eF1 eR1 eU1 eX1 : Nat → Int32) (f141 bits9 : Int32), en1 < 32 → (∀ i, ZB (eX1 i)) → mKeep N f1 lg (p0 >>> (((8 : Int32) + ((4 : Int32) * lg)) &&& 31)) (mm (wa (mn - 1)).toNatClampNeg) us f14 (mK1 f1 lg (p0 >>> (((8 : Int32) + ((4 : Int32) * lg)) &&& 31)) en (en, eC, eL, eB, eF, eR, eU, eX)) = mK3 f1 lg bits9 (mm (wa (mn - 1)).toNatClampNeg) us f141 (en1, eC1, eL1, eB1, eF1, eR1, eU1, eX1) → ∀ (H : Heap) (locs : List Loc), va_P (dC, dI) vwCl (MWl ga gk th L N mm f1 mr mh f8 en1 us eC1 eL1 eB1 eF1 eR1 eU1 eX1 f2 f3 f4 f5 f6 f7 f141 ff fa mn lg cm wa) H → va_D A (MWl ga gk th L N mm f1 mr mh f8 en1 us eC1 eL1 eB1 eF1 eR1 eU1 eX1 f2 f3 f4 f5 f6 f7 f141 ff fa mn lg cm wa) → va_S A s.heap H locs → ∀ (ls : Array Slot), lv_has ls 5 [(0, .ref (ga 0)), (1, .int p0), (2, .int bits9)] → W p l e ({ frames := 1, cells := 0, slots := 0, locals := 21 }) s m [.ref (ga 0), .int p0].toArray below meth c H locs 0 0 (MQ below (va_Qv (fun (u : Nat × Nat × (Nat → Int32) × (Nat → Int32) × (Nat → Int32) × (Nat → Int32) × (Nat → Int32) × (Nat → Int32) × (Nat → Int32) × Int32) => u = mKeep N f1 lg (p0 >>> (((8 : Int32) + ((4 : Int32) * lg)) &&& 31)) (mm (wa (mn - 1)).toNatClampNeg) us f14 (mK1 f1 lg (p0 >>> (((8 : Int32) + ((4 : Int32) * lg)) &&& 31)) en (en, eC, eL, eB, eF, eR, eU, eX))) (fun (u : Nat × Nat × (Nat → Int32) × (Nat → Int32) × (Nat → Int32) × (Nat → Int32) × (Nat → Int32) × (Nat → Int32) × (Nat → Int32) × Int32) (t : State) => match u with | (en', us', eC', eL', eB', eF', eR', eU', eX', f14') => va_P (dC, dI) vwCl (MWl ga gk th L N mm f1 mr mh f8 en' us' eC' eL' eB' eF' eR' eU' eX' f2 f3 f4 f5 f6 f7 f14' ff fa mn lg cm wa) t.heap ∧ va_K (dC, dI) vwCl [(gk 0, .long), (gk 1, .int), (gk 2, .int), (gk 3, .int), (gk 4, .int), (gk 5, .int), (gk 6, .int), (gk 7, .int), (gk 8, .int), (gk 9, .boolean), (gk 10, .int)] t ∧ va_D A (MWl ga gk th L N mm f1 mr mh f8 en' us' eC' eL' eB' eF' eR' eU' eX' f2 f3 f4 f5 f6 f7 f14' ff fa mn lg cm wa)) A) [.ref (ga 0), .int p0].toArray s 0 0 A) (F0 m 139 ls []) := by
    intro en1 eC1 eL1 eB1 eF1 eR1 eU1 eX1 f141 bits9 hen1 hzx1 hm H locs hP hD hS ls hl
    refine lv_aload_n hx hb dX5_keep_139 rfl (lv_at hl 0 rfl) ?_
    refine va_get (D := (dC, dI)) (ci := 5) (v := .ref (ga 1)) (C := RX5) (T := TX5) (N := 30) hx hb hta inA_X5 hown hK hP 0 rfl rfl 3 (by decide) (hta _ aw_514) (fun _ h9 => h9) rfl dX5_keep_140 ?_
    refine lv_aload_n hx hb dX5_keep_143 rfl (lv_at hl 0 rfl) ?_
    refine va_get (D := (dC, dI)) (ci := 5) (v := .ref (ga 11)) (C := RX5) (T := TX5) (N := 30) hx hb hta inA_X5 hown hK hP 0 rfl rfl 29 (by decide) (hta _ aw_540) (fun _ h9 => h9) rfl dX5_keep_144 ?_
    refine lv_aload_n hx hb dX5_keep_147 rfl (lv_at hl 0 rfl) ?_
    refine va_get (D := (dC, dI)) (ci := 5) (v := .int (nI mn)) (C := RX5) (T := TX5) (N := 30) hx hb hta inA_X5 hown hK hP 0 rfl rfl 26 (by decide) (hta _ aw_537) (fun _ h9 => h9) rfl dX5_keep_148 ?_
    refine lv_iconst (v := 1) hx hb dX5_keep_151 (by decide) ?_
    refine lv_isub hx hb dX5_keep_152 ?_
    rw [show (nI mn) - (1 : Int32) = nI (mn - 1) from pk_sub hmn1]
    refine va_iald hx hb hK hP 11 10 rfl rfl (vp_in_nI (by omega) (by omega)) dX5_keep_153 ?_
    rw [nI_clamp (show (mn - 1) < 2 ^ 31 by omega)]
    refine va_lald hx hb hK hP 1 0 rfl rfl hwal dX5_keep_154 ?_
    refine lv_lstore_n (lv' := [(3, .long (mm (wa (mn - 1)).toNatClampNeg)), (0, .ref (ga 0)), (1, .int p0), (2, .int bits9)]) hx hb dX5_keep_155 rfl hl (by decide) rfl (fun ls hl => ?_)
    refine lv_aload_n hx hb dX5_keep_156 rfl (lv_at hl 1 rfl) ?_
    refine va_get (D := (dC, dI)) (ci := 5) (v := .ref (ga 4)) (C := RX5) (T := TX5) (N := 30) hx hb hta inA_X5 hown hK hP 0 rfl rfl 10 (by decide) (hta _ aw_521) (fun _ h9 => h9) rfl dX5_keep_157 ?_
    refine lv_aload_n hx hb dX5_keep_160 rfl (lv_at hl 1 rfl) ?_
    refine va_get (D := (dC, dI)) (ci := 5) (v := .int (nI en1)) (C := RX5) (T := TX5) (N := 30) hx hb hta inA_X5 hown hK hP 0 rfl rfl 8 (by decide) (hta _ aw_519) (fun _ h9 => h9) rfl dX5_keep_161 ?_
    refine lv_aload_n hx hb dX5_keep_164 rfl (lv_at hl 1 rfl) ?_
    refine va_get (D := (dC, dI)) (ci := 5) (v := .int f1) (C := RX5) (T := TX5) (N := 30) hx hb hta inA_X5 hown hK hP 0 rfl rfl 4 (by decide) (hta _ aw_515) (fun _ h9 => h9) rfl dX5_keep_165 ?_
    refine va_iast hx hb hK hP hD hS 4 3 rfl rfl (vp_in_nI (by omega) (by omega)) dX5_keep_168 (fun H locs hP hD hS => ?_)
    rw [nI_clamp (show en1 < 2 ^ 31 by omega)] at hP hD
    have hP : va_P (dC, dI) vwCl (MWl ga gk th L N mm f1 mr mh f8 en1 us (upd eC1 en1 f1) eL1 eB1 eF1 eR1 eU1 eX1 f2 f3 f4 f5 f6 f7 f141 ff fa mn lg cm wa) H := hP
    have hD : va_D A (MWl ga gk th L N mm f1 mr mh f8 en1 us (upd eC1 en1 f1) eL1 eB1 eF1 eR1 eU1 eX1 f2 f3 f4 f5 f6 f7 f141 ff fa mn lg cm wa) := hD
    refine lv_aload_n hx hb dX5_keep_169 rfl (lv_at hl 1 rfl) ?_
    refine va_get (D := (dC, dI)) (ci := 5) (v := .ref (ga 5)) (C := RX5) (T := TX5) (N := 30) hx hb hta inA_X5 hown hK hP 0 rfl rfl 11 (by decide) (hta _ aw_522) (fun _ h9 => h9) rfl dX5_keep_170 ?_
    refine lv_aload_n hx hb dX5_keep_173 rfl (lv_at hl 1 rfl) ?_
    refine va_get (D := (dC, dI)) (ci := 5) (v := .int (nI en1)) (C := RX5) (T := TX5) (N := 30) hx hb hta inA_X5 hown hK hP 0 rfl rfl 8 (by decide) (hta _ aw_519) (fun _ h9 => h9) rfl dX5_keep_174 ?_
    refine lv_aload_n hx hb dX5_keep_177 rfl (lv_at hl 1 rfl) ?_
    refine va_get (D := (dC, dI)) (ci := 5) (v := .int lg) (C := RX5) (T := TX5) (N := 30) hx hb hta inA_X5 hown hK hP 0 rfl rfl 27 (by decide) (hta _ aw_538) (fun _ h9 => h9) rfl dX5_keep_178 ?_
    refine va_iast hx hb hK hP hD hS 5 4 rfl rfl (vp_in_nI (by omega) (by omega)) dX5_keep_181 (fun H locs hP hD hS => ?_)
    rw [nI_clamp (show en1 < 2 ^ 31 by omega)] at hP hD
    have hP : va_P (dC, dI) vwCl (MWl ga gk th L N mm f1 mr mh f8 en1 us (upd eC1 en1 f1) (upd eL1 en1 lg) eB1 eF1 eR1 eU1 eX1 f2 f3 f4 f5 f6 f7 f141 ff fa mn lg cm wa) H := hP
    have hD : va_D A (MWl ga gk th L N mm f1 mr mh f8 en1 us (upd eC1 en1 f1) (upd eL1 en1 lg) eB1 eF1 eR1 eU1 eX1 f2 f3 f4 f5 f6 f7 f141 ff fa mn lg cm wa) := hD
    refine lv_aload_n hx hb dX5_keep_182 rfl (lv_at hl 1 rfl) ?_
    refine va_get (D := (dC, dI)) (ci := 5) (v := .ref (ga 6)) (C := RX5) (T := TX5) (N := 30) hx hb hta inA_X5 hown hK hP 0 rfl rfl 12 (by decide) (hta _ aw_523) (fun _ h9 => h9) rfl dX5_keep_183 ?_
    refine lv_aload_n hx hb dX5_keep_186 rfl (lv_at hl 1 rfl) ?_
    refine va_get (D := (dC, dI)) (ci := 5) (v := .int (nI en1)) (C := RX5) (T := TX5) (N := 30) hx hb hta inA_X5 hown hK hP 0 rfl rfl 8 (by decide) (hta _ aw_519) (fun _ h9 => h9) rfl dX5_keep_187 ?_
    refine lv_iload_n hx hb dX5_keep_190 rfl (lv_at hl 3 rfl) ?_
    refine va_iast hx hb hK hP hD hS 6 5 rfl rfl (vp_in_nI (by omega) (by omega)) dX5_keep_191 (fun H locs hP hD hS => ?_)
    rw [nI_clamp (show en1 < 2 ^ 31 by omega)] at hP hD
    have hP : va_P (dC, dI) vwCl (MWl ga gk th L N mm f1 mr mh f8 en1 us (upd eC1 en1 f1) (upd eL1 en1 lg) (upd eB1 en1 bits9) eF1 eR1 eU1 eX1 f2 f3 f4 f5 f6 f7 f141 ff fa mn lg cm wa) H := hP
    have hD : va_D A (MWl ga gk th L N mm f1 mr mh f8 en1 us (upd eC1 en1 f1) (upd eL1 en1 lg) (upd eB1 en1 bits9) eF1 eR1 eU1 eX1 f2 f3 f4 f5 f6 f7 f141 ff fa mn lg cm wa) := hD
    refine lv_aload_n hx hb dX5_keep_192 rfl (lv_at hl 1 rfl) ?_
    refine va_get (D := (dC, dI)) (ci := 5) (v := .ref (ga 7)) (C := RX5) (T := TX5) (N := 30) hx hb hta inA_X5 hown hK hP 0 rfl rfl 13 (by decide) (hta _ aw_524) (fun _ h9 => h9) rfl dX5_keep_193 ?_
    refine lv_aload_n hx hb dX5_keep_196 rfl (lv_at hl 1 rfl) ?_
    refine va_get (D := (dC, dI)) (ci := 5) (v := .int (nI en1)) (C := RX5) (T := TX5) (N := 30) hx hb hta inA_X5 hown hK hP 0 rfl rfl 8 (by decide) (hta _ aw_519) (fun _ h9 => h9) rfl dX5_keep_197 ?_
    refine lv_lload_n hx hb dX5_keep_200 rfl (lv_at hl 0 rfl) ?_
    refine cx_callSi (va_runS (As := [.long (mm (wa (mn - 1)).toNatClampNeg)]) (rest := [.int (nI en1), .ref (ga 7)]) ⟨hx, hb, hml, hown, hta⟩ (c_X5_frameOf l (mm (wa (mn - 1)).toNatClampNeg)) (va_cwS 1 hta (gS aw_694 aw_695 aw_43 aw_696) rfl rfl rfl (by decide +kernel) ⟨Nat.le_of_ble_eq_true rfl, Nat.le_of_ble_eq_true rfl⟩) cx_pre0 rfl rfl hl.1 rfl (lv_room (Nat.le_of_ble_eq_true rfl)) dX5_keep_201 ⟨Nat.le_of_ble_eq_true rfl, Nat.le_of_ble_eq_true rfl⟩) (fun r hw_1 => ?_)
    subst hw_1
    refine va_iast hx hb hK hP hD hS 7 6 rfl rfl (vp_in_nI (by omega) (by omega)) dX5_keep_204 (fun H locs hP hD hS => ?_)
    rw [nI_clamp (show en1 < 2 ^ 31 by omega)] at hP hD
    have hP : va_P (dC, dI) vwCl (MWl ga gk th L N mm f1 mr mh f8 en1 us (upd eC1 en1 f1) (upd eL1 en1 lg) (upd eB1 en1 bits9) (upd eF1 en1 (mX5_frameOf (mm (wa (mn - 1)).toNatClampNeg))) eR1 eU1 eX1 f2 f3 f4 f5 f6 f7 f141 ff fa mn lg cm wa) H := hP
    have hD : va_D A (MWl ga gk th L N mm f1 mr mh f8 en1 us (upd eC1 en1 f1) (upd eL1 en1 lg) (upd eB1 en1 bits9) (upd eF1 en1 (mX5_frameOf (mm (wa (mn - 1)).toNatClampNeg))) eR1 eU1 eX1 f2 f3 f4 f5 f6 f7 f141 ff fa mn lg cm wa) := hD
    refine lv_aload_n hx hb dX5_keep_205 rfl (lv_at hl 1 rfl) ?_
    refine va_get (D := (dC, dI)) (ci := 5) (v := .ref (ga 8)) (C := RX5) (T := TX5) (N := 30) hx hb hta inA_X5 hown hK hP 0 rfl rfl 14 (by decide) (hta _ aw_525) (fun _ h9 => h9) rfl dX5_keep_206 ?_
    refine lv_aload_n hx hb dX5_keep_209 rfl (lv_at hl 1 rfl) ?_
    refine va_get (D := (dC, dI)) (ci := 5) (v := .int (nI en1)) (C := RX5) (T := TX5) (N := 30) hx hb hta inA_X5 hown hK hP 0 rfl rfl 8 (by decide) (hta _ aw_519) (fun _ h9 => h9) rfl dX5_keep_210 ?_
    refine lv_lload_n hx hb dX5_keep_213 rfl (lv_at hl 0 rfl) ?_
    refine cx_callSi (va_runS (As := [.long (mm (wa (mn - 1)).toNatClampNeg)]) (rest := [.int (nI en1), .ref (ga 8)]) ⟨hx, hb, hml, hown, hta⟩ (c_X5_rightsOf l (mm (wa (mn - 1)).toNatClampNeg)) (va_cwS 1 hta (gS aw_698 aw_699 aw_43 aw_700) rfl rfl rfl (by decide +kernel) ⟨Nat.le_of_ble_eq_true rfl, Nat.le_of_ble_eq_true rfl⟩) cx_pre0 rfl rfl hl.1 rfl (lv_room (Nat.le_of_ble_eq_true rfl)) dX5_keep_214 ⟨Nat.le_of_ble_eq_true rfl, Nat.le_of_ble_eq_true rfl⟩) (fun r hw_2 => ?_)
    subst hw_2
    refine va_iast hx hb hK hP hD hS 8 7 rfl rfl (vp_in_nI (by omega) (by omega)) dX5_keep_217 (fun H locs hP hD hS => ?_)
    rw [nI_clamp (show en1 < 2 ^ 31 by omega)] at hP hD
    have hP : va_P (dC, dI) vwCl (MWl ga gk th L N mm f1 mr mh f8 en1 us (upd eC1 en1 f1) (upd eL1 en1 lg) (upd eB1 en1 bits9) (upd eF1 en1 (mX5_frameOf (mm (wa (mn - 1)).toNatClampNeg))) (upd eR1 en1 (mX5_rightsOf (mm (wa (mn - 1)).toNatClampNeg))) eU1 eX1 f2 f3 f4 f5 f6 f7 f141 ff fa mn lg cm wa) H := hP
    have hD : va_D A (MWl ga gk th L N mm f1 mr mh f8 en1 us (upd eC1 en1 f1) (upd eL1 en1 lg) (upd eB1 en1 bits9) (upd eF1 en1 (mX5_frameOf (mm (wa (mn - 1)).toNatClampNeg))) (upd eR1 en1 (mX5_rightsOf (mm (wa (mn - 1)).toNatClampNeg))) eU1 eX1 f2 f3 f4 f5 f6 f7 f141 ff fa mn lg cm wa) := hD
    refine lv_aload_n hx hb dX5_keep_218 rfl (lv_at hl 1 rfl) ?_
    refine va_get (D := (dC, dI)) (ci := 5) (v := .ref (ga 10)) (C := RX5) (T := TX5) (N := 30) hx hb hta inA_X5 hown hK hP 0 rfl rfl 16 (by decide) (hta _ aw_527) (fun _ h9 => h9) rfl dX5_keep_219 ?_
    refine lv_aload_n hx hb dX5_keep_222 rfl (lv_at hl 1 rfl) ?_
    refine va_get (D := (dC, dI)) (ci := 5) (v := .int (nI en1)) (C := RX5) (T := TX5) (N := 30) hx hb hta inA_X5 hown hK hP 0 rfl rfl 8 (by decide) (hta _ aw_519) (fun _ h9 => h9) rfl dX5_keep_223 ?_
    refine lv_lload_n hx hb dX5_keep_226 rfl (lv_at hl 0 rfl) ?_
    refine lv_ldc2 (v := 128) hx hb hown (hta _ aw_706) dX5_keep_227 ?_
    refine lv_land hx hb dX5_keep_230 ?_
    refine lv_lconst (v := 0) hx hb dX5_keep_231 (by decide) ?_
    refine W.lcmp hx hb dX5_keep_232 ?_
    refine lv_if_eq (tgt := 240) hx hb dX5_keep_233 (by decide) (fun c_233_2 => ?_) (fun c_233_2 => ?_)
    · refine lv_iconst (v := 0) hx hb dX5_keep_240 (by decide) ?_
      refine va_zast hx hb hK hP hD hS 10 9 rfl rfl (vp_in_nI (by omega) (by omega)) dX5_keep_241 (fun H locs hP hD hS => ?_)
      rw [show vp_nar .boolean (0 : Int32) = (0 : Int32) from rfl] at hP hD
      rw [nI_clamp (show en1 < 2 ^ 31 by omega)] at hP hD
      have hP : va_P (dC, dI) vwCl (MWl ga gk th L N mm f1 mr mh f8 en1 us (upd eC1 en1 f1) (upd eL1 en1 lg) (upd eB1 en1 bits9) (upd eF1 en1 (mX5_frameOf (mm (wa (mn - 1)).toNatClampNeg))) (upd eR1 en1 (mX5_rightsOf (mm (wa (mn - 1)).toNatClampNeg))) eU1 (upd eX1 en1 (0 : Int32)) f2 f3 f4 f5 f6 f7 f141 ff fa mn lg cm wa) H := hP
      have hD : va_D A (MWl ga gk th L N mm f1 mr mh f8 en1 us (upd eC1 en1 f1) (upd eL1 en1 lg) (upd eB1 en1 bits9) (upd eF1 en1 (mX5_frameOf (mm (wa (mn - 1)).toNatClampNeg))) (upd eR1 en1 (mX5_rightsOf (mm (wa (mn - 1)).toNatClampNeg))) eU1 (upd eX1 en1 (0 : Int32)) f2 f3 f4 f5 f6 f7 f141 ff fa mn lg cm wa) := hD
      refine lv_aload_n hx hb dX5_keep_242 rfl (lv_at hl 1 rfl) ?_
      refine lv_dup hx hb dX5_keep_243 rfl ?_
      refine va_get (D := (dC, dI)) (ci := 5) (v := .int (nI en1)) (C := RX5) (T := TX5) (N := 30) hx hb hta inA_X5 hown hK hP 0 rfl rfl 8 (by decide) (hta _ aw_519) (fun _ h9 => h9) rfl dX5_keep_244 ?_
      refine lv_iconst (v := 1) hx hb dX5_keep_247 (by decide) ?_
      refine lv_iadd hx hb dX5_keep_248 ?_
      rw [show (nI en1) + (1 : Int32) = nI (en1 + 1) from nI_add en1 1]
      refine va_put (D := (dC, dI)) (ci := 5) (v := .int (nI (en1 + 1))) (ty := .int) (C := RX5) (T := TX5) (N := 30) hx hb hta inA_X5 tyX5 tyX5_ok nmX5 hown hK hP hD hS 0 rfl rfl 8 (by decide) (hta _ aw_519) (fun _ h9 => h9) rfl (by decide +kernel) rfl rfl (Nat.le_of_ble_eq_true rfl) dX5_keep_249 (fun H locs hP hD hS => ?_)
      have hP : va_P (dC, dI) vwCl (MWl ga gk th L N mm f1 mr mh f8 (en1 + 1) us (upd eC1 en1 f1) (upd eL1 en1 lg) (upd eB1 en1 bits9) (upd eF1 en1 (mX5_frameOf (mm (wa (mn - 1)).toNatClampNeg))) (upd eR1 en1 (mX5_rightsOf (mm (wa (mn - 1)).toNatClampNeg))) eU1 (upd eX1 en1 (0 : Int32)) f2 f3 f4 f5 f6 f7 f141 ff fa mn lg cm wa) H := hP
      have hD : va_D A (MWl ga gk th L N mm f1 mr mh f8 (en1 + 1) us (upd eC1 en1 f1) (upd eL1 en1 lg) (upd eB1 en1 bits9) (upd eF1 en1 (mX5_frameOf (mm (wa (mn - 1)).toNatClampNeg))) (upd eR1 en1 (mX5_rightsOf (mm (wa (mn - 1)).toNatClampNeg))) eU1 (upd eX1 en1 (0 : Int32)) f2 f3 f4 f5 f6 f7 f141 ff fa mn lg cm wa) := hD
      refine lv_aload_n hx hb dX5_keep_252 rfl (lv_at hl 1 rfl) ?_
      refine lv_aload_n hx hb dX5_keep_253 rfl (lv_at hl 1 rfl) ?_
      refine va_get (D := (dC, dI)) (ci := 5) (v := .int (nI (en1 + 1))) (C := RX5) (T := TX5) (N := 30) hx hb hta inA_X5 hown hK hP 0 rfl rfl 8 (by decide) (hta _ aw_519) (fun _ h9 => h9) rfl dX5_keep_254 ?_
      refine lv_iconst (v := 1) hx hb dX5_keep_257 (by decide) ?_
      refine lv_isub hx hb dX5_keep_258 ?_
      rw [show (nI (en1 + 1)) - (1 : Int32) = nI en1 from nI_pred en1]
      have hFc : ∀ q, va_A (MWl ga gk th L N mm f1 mr mh f8 (en1 + 1) us (upd eC1 en1 f1) (upd eL1 en1 lg) (upd eB1 en1 bits9) (upd eF1 en1 (mX5_frameOf (mm (wa (mn - 1)).toNatClampNeg))) (upd eR1 en1 (mX5_rightsOf (mm (wa (mn - 1)).toNatClampNeg))) eU1 (upd eX1 en1 (0 : Int32)) f2 f3 f4 f5 f6 f7 f141 ff fa mn lg cm wa) H.size q → A q := cx_free hD hS hA
      refine va_callv (va_runV (As := [.int (nI en1)]) (rest := []) ⟨hx, hb, hml, hown, hta⟩ (c_X5_use l dC dI ga gk th L N mm f1 mr mh f8 (en1 + 1) us (upd eC1 en1 f1) (upd eL1 en1 lg) (upd eB1 en1 bits9) (upd eF1 en1 (mX5_frameOf (mm (wa (mn - 1)).toNatClampNeg))) (upd eR1 en1 (mX5_rightsOf (mm (wa (mn - 1)).toNatClampNeg))) eU1 (upd eX1 en1 (0 : Int32)) f2 f3 f4 f5 f6 f7 f141 ff fa mn lg cm wa H.size en1 (by omega)) (cwV 1 hta (gV aw_662 aw_664 aw_25 aw_43 aw_665) rfl rfl rfl (by decide +kernel) ⟨Nat.le_of_ble_eq_true rfl, Nat.le_of_ble_eq_true rfl⟩) (cx_preVQ hK hP hN (va_recv hK hP (ci := 5) (q0 := 0) rfl rfl) hD) rfl rfl hl.1 rfl (lv_room (Nat.le_of_ble_eq_true rfl)) dX5_keep_259 ⟨Nat.le_of_ble_eq_true rfl, Nat.le_of_ble_eq_true rfl⟩) hS (fun q _ h => hFc q h) hFc (fun u t9 H1 locs ht hvm hw_4 hB hz1 hk1 hS => ?_)
      obtain ⟨us_4, eU_4⟩ := u
      obtain ⟨hP, hK1, hD1⟩ := hB
      rw [ht] at hP
      have hD := hD1.weaken (fun _ _ _ h => hFc _ h)
      clear hFc hz1 hk1 hK1 hD1 ht hvm
      generalize H1 = H at hP hS ⊢
      have hP : va_P (dC, dI) vwCl (MWl ga gk th L N mm f1 mr mh f8 (en1 + 1) us_4 (upd eC1 en1 f1) (upd eL1 en1 lg) (upd eB1 en1 bits9) (upd eF1 en1 (mX5_frameOf (mm (wa (mn - 1)).toNatClampNeg))) (upd eR1 en1 (mX5_rightsOf (mm (wa (mn - 1)).toNatClampNeg))) eU_4 (upd eX1 en1 (0 : Int32)) f2 f3 f4 f5 f6 f7 f141 ff fa mn lg cm wa) H := hP
      have hD : va_D A (MWl ga gk th L N mm f1 mr mh f8 (en1 + 1) us_4 (upd eC1 en1 f1) (upd eL1 en1 lg) (upd eB1 en1 bits9) (upd eF1 en1 (mX5_frameOf (mm (wa (mn - 1)).toNatClampNeg))) (upd eR1 en1 (mX5_rightsOf (mm (wa (mn - 1)).toNatClampNeg))) eU_4 (upd eX1 en1 (0 : Int32)) f2 f3 f4 f5 f6 f7 f141 ff fa mn lg cm wa) := hD
      exact W.vret hx hb hr (fun t9 ht hW => ⟨⟨((en1 + 1), us_4, upd eC1 en1 f1, upd eL1 en1 lg, upd eB1 en1 bits9, upd eF1 en1 (mX5_frameOf (mm (wa (mn - 1)).toNatClampNeg)), upd eR1 en1 (mX5_rightsOf (mm (wa (mn - 1)).toNatClampNeg)), eU_4, upd eX1 en1 (0 : Int32), f141), rfl, (by rw [hm]; unfold mK3; rw [if_pos c_233_2]; unfold mX5_use at hw_4; cases hw_4; rfl), by rw [ht]; exact hP, va_K.moved hW.alike hK, hD⟩, hS.F ht⟩) hS.2.2 dX5_keep_262
    · refine lv_iconst (v := 1) hx hb dX5_keep_236 (by decide) ?_
      refine lv_goto (tgt := 241) hx hb dX5_keep_237 (by decide) ?_
      refine va_zast hx hb hK hP hD hS 10 9 rfl rfl (vp_in_nI (by omega) (by omega)) dX5_keep_241 (fun H locs hP hD hS => ?_)
      rw [show vp_nar .boolean (1 : Int32) = (1 : Int32) from rfl] at hP hD
      rw [nI_clamp (show en1 < 2 ^ 31 by omega)] at hP hD
      have hP : va_P (dC, dI) vwCl (MWl ga gk th L N mm f1 mr mh f8 en1 us (upd eC1 en1 f1) (upd eL1 en1 lg) (upd eB1 en1 bits9) (upd eF1 en1 (mX5_frameOf (mm (wa (mn - 1)).toNatClampNeg))) (upd eR1 en1 (mX5_rightsOf (mm (wa (mn - 1)).toNatClampNeg))) eU1 (upd eX1 en1 (1 : Int32)) f2 f3 f4 f5 f6 f7 f141 ff fa mn lg cm wa) H := hP
      have hD : va_D A (MWl ga gk th L N mm f1 mr mh f8 en1 us (upd eC1 en1 f1) (upd eL1 en1 lg) (upd eB1 en1 bits9) (upd eF1 en1 (mX5_frameOf (mm (wa (mn - 1)).toNatClampNeg))) (upd eR1 en1 (mX5_rightsOf (mm (wa (mn - 1)).toNatClampNeg))) eU1 (upd eX1 en1 (1 : Int32)) f2 f3 f4 f5 f6 f7 f141 ff fa mn lg cm wa) := hD
      refine lv_aload_n hx hb dX5_keep_242 rfl (lv_at hl 1 rfl) ?_
      refine lv_dup hx hb dX5_keep_243 rfl ?_
      refine va_get (D := (dC, dI)) (ci := 5) (v := .int (nI en1)) (C := RX5) (T := TX5) (N := 30) hx hb hta inA_X5 hown hK hP 0 rfl rfl 8 (by decide) (hta _ aw_519) (fun _ h9 => h9) rfl dX5_keep_244 ?_
      refine lv_iconst (v := 1) hx hb dX5_keep_247 (by decide) ?_
      refine lv_iadd hx hb dX5_keep_248 ?_
      rw [show (nI en1) + (1 : Int32) = nI (en1 + 1) from nI_add en1 1]
      refine va_put (D := (dC, dI)) (ci := 5) (v := .int (nI (en1 + 1))) (ty := .int) (C := RX5) (T := TX5) (N := 30) hx hb hta inA_X5 tyX5 tyX5_ok nmX5 hown hK hP hD hS 0 rfl rfl 8 (by decide) (hta _ aw_519) (fun _ h9 => h9) rfl (by decide +kernel) rfl rfl (Nat.le_of_ble_eq_true rfl) dX5_keep_249 (fun H locs hP hD hS => ?_)
      have hP : va_P (dC, dI) vwCl (MWl ga gk th L N mm f1 mr mh f8 (en1 + 1) us (upd eC1 en1 f1) (upd eL1 en1 lg) (upd eB1 en1 bits9) (upd eF1 en1 (mX5_frameOf (mm (wa (mn - 1)).toNatClampNeg))) (upd eR1 en1 (mX5_rightsOf (mm (wa (mn - 1)).toNatClampNeg))) eU1 (upd eX1 en1 (1 : Int32)) f2 f3 f4 f5 f6 f7 f141 ff fa mn lg cm wa) H := hP
      have hD : va_D A (MWl ga gk th L N mm f1 mr mh f8 (en1 + 1) us (upd eC1 en1 f1) (upd eL1 en1 lg) (upd eB1 en1 bits9) (upd eF1 en1 (mX5_frameOf (mm (wa (mn - 1)).toNatClampNeg))) (upd eR1 en1 (mX5_rightsOf (mm (wa (mn - 1)).toNatClampNeg))) eU1 (upd eX1 en1 (1 : Int32)) f2 f3 f4 f5 f6 f7 f141 ff fa mn lg cm wa) := hD
      refine lv_aload_n hx hb dX5_keep_252 rfl (lv_at hl 1 rfl) ?_
      refine lv_aload_n hx hb dX5_keep_253 rfl (lv_at hl 1 rfl) ?_
      refine va_get (D := (dC, dI)) (ci := 5) (v := .int (nI (en1 + 1))) (C := RX5) (T := TX5) (N := 30) hx hb hta inA_X5 hown hK hP 0 rfl rfl 8 (by decide) (hta _ aw_519) (fun _ h9 => h9) rfl dX5_keep_254 ?_
      refine lv_iconst (v := 1) hx hb dX5_keep_257 (by decide) ?_
      refine lv_isub hx hb dX5_keep_258 ?_
      rw [show (nI (en1 + 1)) - (1 : Int32) = nI en1 from nI_pred en1]
      have hFc : ∀ q, va_A (MWl ga gk th L N mm f1 mr mh f8 (en1 + 1) us (upd eC1 en1 f1) (upd eL1 en1 lg) (upd eB1 en1 bits9) (upd eF1 en1 (mX5_frameOf (mm (wa (mn - 1)).toNatClampNeg))) (upd eR1 en1 (mX5_rightsOf (mm (wa (mn - 1)).toNatClampNeg))) eU1 (upd eX1 en1 (1 : Int32)) f2 f3 f4 f5 f6 f7 f141 ff fa mn lg cm wa) H.size q → A q := cx_free hD hS hA
      refine va_callv (va_runV (As := [.int (nI en1)]) (rest := []) ⟨hx, hb, hml, hown, hta⟩ (c_X5_use l dC dI ga gk th L N mm f1 mr mh f8 (en1 + 1) us (upd eC1 en1 f1) (upd eL1 en1 lg) (upd eB1 en1 bits9) (upd eF1 en1 (mX5_frameOf (mm (wa (mn - 1)).toNatClampNeg))) (upd eR1 en1 (mX5_rightsOf (mm (wa (mn - 1)).toNatClampNeg))) eU1 (upd eX1 en1 (1 : Int32)) f2 f3 f4 f5 f6 f7 f141 ff fa mn lg cm wa H.size en1 (by omega)) (cwV 1 hta (gV aw_662 aw_664 aw_25 aw_43 aw_665) rfl rfl rfl (by decide +kernel) ⟨Nat.le_of_ble_eq_true rfl, Nat.le_of_ble_eq_true rfl⟩) (cx_preVQ hK hP hN (va_recv hK hP (ci := 5) (q0 := 0) rfl rfl) hD) rfl rfl hl.1 rfl (lv_room (Nat.le_of_ble_eq_true rfl)) dX5_keep_259 ⟨Nat.le_of_ble_eq_true rfl, Nat.le_of_ble_eq_true rfl⟩) hS (fun q _ h => hFc q h) hFc (fun u t9 H1 locs ht hvm hw_5 hB hz1 hk1 hS => ?_)
      obtain ⟨us_5, eU_5⟩ := u
      obtain ⟨hP, hK1, hD1⟩ := hB
      rw [ht] at hP
      have hD := hD1.weaken (fun _ _ _ h => hFc _ h)
      clear hFc hz1 hk1 hK1 hD1 ht hvm
      generalize H1 = H at hP hS ⊢
      have hP : va_P (dC, dI) vwCl (MWl ga gk th L N mm f1 mr mh f8 (en1 + 1) us_5 (upd eC1 en1 f1) (upd eL1 en1 lg) (upd eB1 en1 bits9) (upd eF1 en1 (mX5_frameOf (mm (wa (mn - 1)).toNatClampNeg))) (upd eR1 en1 (mX5_rightsOf (mm (wa (mn - 1)).toNatClampNeg))) eU_5 (upd eX1 en1 (1 : Int32)) f2 f3 f4 f5 f6 f7 f141 ff fa mn lg cm wa) H := hP
      have hD : va_D A (MWl ga gk th L N mm f1 mr mh f8 (en1 + 1) us_5 (upd eC1 en1 f1) (upd eL1 en1 lg) (upd eB1 en1 bits9) (upd eF1 en1 (mX5_frameOf (mm (wa (mn - 1)).toNatClampNeg))) (upd eR1 en1 (mX5_rightsOf (mm (wa (mn - 1)).toNatClampNeg))) eU_5 (upd eX1 en1 (1 : Int32)) f2 f3 f4 f5 f6 f7 f141 ff fa mn lg cm wa) := hD
      exact W.vret hx hb hr (fun t9 ht hW => ⟨⟨((en1 + 1), us_5, upd eC1 en1 f1, upd eL1 en1 lg, upd eB1 en1 bits9, upd eF1 en1 (mX5_frameOf (mm (wa (mn - 1)).toNatClampNeg)), upd eR1 en1 (mX5_rightsOf (mm (wa (mn - 1)).toNatClampNeg)), eU_5, upd eX1 en1 (1 : Int32), f141), rfl, (by rw [hm]; unfold mK3; rw [if_neg c_233_2]; unfold mX5_use at hw_5; cases hw_5; rfl), by rw [ht]; exact hP, va_K.moved hW.alike hK, hD⟩, hS.F ht⟩) hS.2.2 dX5_keep_262
  have old : ∀ (en1 : Nat) (eC1 eL1 eB1 eF1 eR1 eU1 eX1 : Nat → Int32) (bits9 : Int32) (j i o : Nat), en1 = N → 1 ≤ en1 → (∀ i, ZB (eX1 i)) → i + j = en1 → o < i → mKeep N f1 lg (p0 >>> (((8 : Int32) + ((4 : Int32) * lg)) &&& 31)) (mm (wa (mn - 1)).toNatClampNeg) us f14 (mK1 f1 lg (p0 >>> (((8 : Int32) + ((4 : Int32) * lg)) &&& 31)) en (en, eC, eL, eB, eF, eR, eU, eX)) = mK3 f1 lg bits9 (mm (wa (mn - 1)).toNatClampNeg) us (f14 + (1 : Int32)) (mDropT (en1, eC1, eL1, eB1, eF1, eR1, eU1, eX1) (mOld eU1 j i o)) → ∀ (H : Heap) (locs : List Loc), va_P (dC, dI) vwCl (MWl ga gk th L N mm f1 mr mh f8 en1 us eC1 eL1 eB1 eF1 eR1 eU1 eX1 f2 f3 f4 f5 f6 f7 f14 ff fa mn lg cm wa) H → va_D A (MWl ga gk th L N mm f1 mr mh f8 en1 us eC1 eL1 eB1 eF1 eR1 eU1 eX1 f2 f3 f4 f5 f6 f7 f14 ff fa mn lg cm wa) → va_S A s.heap H locs → ∀ (ls : Array Slot), lv_has ls 5 [(4, .int (nI i)), (3, .int (nI o)), (0, .ref (ga 0)), (1, .int p0), (2, .int bits9)] → W p l e ({ frames := 1, cells := 0, slots := 0, locals := 21 }) s m [.ref (ga 0), .int p0].toArray below meth c H locs 0 0 (MQ below (va_Qv (fun (u : Nat × Nat × (Nat → Int32) × (Nat → Int32) × (Nat → Int32) × (Nat → Int32) × (Nat → Int32) × (Nat → Int32) × (Nat → Int32) × Int32) => u = mKeep N f1 lg (p0 >>> (((8 : Int32) + ((4 : Int32) * lg)) &&& 31)) (mm (wa (mn - 1)).toNatClampNeg) us f14 (mK1 f1 lg (p0 >>> (((8 : Int32) + ((4 : Int32) * lg)) &&& 31)) en (en, eC, eL, eB, eF, eR, eU, eX))) (fun (u : Nat × Nat × (Nat → Int32) × (Nat → Int32) × (Nat → Int32) × (Nat → Int32) × (Nat → Int32) × (Nat → Int32) × (Nat → Int32) × Int32) (t : State) => match u with | (en', us', eC', eL', eB', eF', eR', eU', eX', f14') => va_P (dC, dI) vwCl (MWl ga gk th L N mm f1 mr mh f8 en' us' eC' eL' eB' eF' eR' eU' eX' f2 f3 f4 f5 f6 f7 f14' ff fa mn lg cm wa) t.heap ∧ va_K (dC, dI) vwCl [(gk 0, .long), (gk 1, .int), (gk 2, .int), (gk 3, .int), (gk 4, .int), (gk 5, .int), (gk 6, .int), (gk 7, .int), (gk 8, .int), (gk 9, .boolean), (gk 10, .int)] t ∧ va_D A (MWl ga gk th L N mm f1 mr mh f8 en' us' eC' eL' eB' eF' eR' eU' eX' f2 f3 f4 f5 f6 f7 f14' ff fa mn lg cm wa)) A) [.ref (ga 0), .int p0].toArray s 0 0 A) (F0 m 86 ls []) := by
    intro en1 eC1 eL1 eB1 eF1 eR1 eU1 eX1 bits9 j
    induction j with
    | zero =>
      intro i o henN h1en hzx hi hoi hm H locs hP hD hS ls hl
      refine lv_iload hx hb dX5_keep_86 (lv_at hl 0 rfl) ?_
      refine lv_aload_n hx hb dX5_keep_88 rfl (lv_at hl 2 rfl) ?_
      refine va_get (D := (dC, dI)) (ci := 5) (v := .int (nI en1)) (C := RX5) (T := TX5) (N := 30) hx hb hta inA_X5 hown hK hP 0 rfl rfl 8 (by decide) (hta _ aw_519) (fun _ h9 => h9) rfl dX5_keep_89 ?_
      refine lv_icmp_ge (tgt := 124) hx hb dX5_keep_92 (by decide) (fun c_92_5 => ?_) (fun c_92_5 => ?_)
      · refine lv_aload_n hx hb dX5_keep_124 rfl (lv_at hl 2 rfl) ?_
        refine lv_iload_n hx hb dX5_keep_125 rfl (lv_at hl 1 rfl) ?_
        have hFc : ∀ q, va_A (MWl ga gk th L N mm f1 mr mh f8 en1 us eC1 eL1 eB1 eF1 eR1 eU1 eX1 f2 f3 f4 f5 f6 f7 f14 ff fa mn lg cm wa) H.size q → A q := cx_free hD hS hA
        refine va_callv (va_runV (As := [.int (nI o)]) (rest := []) ⟨hx, hb, hml, hown, hta⟩ (c_X5_drop l dC dI ga gk th L N mm f1 mr mh f8 en1 us eC1 eL1 eB1 eF1 eR1 eU1 eX1 f2 f3 f4 f5 f6 f7 f14 ff fa mn lg cm wa H.size o h1en (by omega) (by omega) hzx) (cwV 1 hta (gV aw_711 aw_713 aw_34 aw_43 aw_714) rfl rfl rfl (by decide +kernel) ⟨Nat.le_of_ble_eq_true rfl, Nat.le_of_ble_eq_true rfl⟩) (cx_preVQ hK hP hN (va_recv hK hP (ci := 5) (q0 := 0) rfl rfl) hD) rfl rfl hl.1 rfl (lv_room (Nat.le_of_ble_eq_true rfl)) dX5_keep_126 ⟨Nat.le_of_ble_eq_true rfl, Nat.le_of_ble_eq_true rfl⟩) hS (fun q _ h => hFc q h) hFc (fun u t9 H1 locs ht hvm hw_7 hB hz1 hk1 hS => ?_)
        obtain ⟨en_7, eC_7, eL_7, eB_7, eF_7, eR_7, eU_7, eX_7⟩ := u
        obtain ⟨hP, hK1, hD1⟩ := hB
        rw [ht] at hP
        have hD := hD1.weaken (fun _ _ _ h => hFc _ h)
        clear hFc hz1 hk1 hK1 hD1 ht hvm
        generalize H1 = H at hP hS ⊢
        have hP : va_P (dC, dI) vwCl (MWl ga gk th L N mm f1 mr mh f8 en_7 us eC_7 eL_7 eB_7 eF_7 eR_7 eU_7 eX_7 f2 f3 f4 f5 f6 f7 f14 ff fa mn lg cm wa) H := hP
        have hD : va_D A (MWl ga gk th L N mm f1 mr mh f8 en_7 us eC_7 eL_7 eB_7 eF_7 eR_7 eU_7 eX_7 f2 f3 f4 f5 f6 f7 f14 ff fa mn lg cm wa) := hD
        refine lv_aload_n hx hb dX5_keep_129 rfl (lv_at hl 2 rfl) ?_
        refine lv_dup hx hb dX5_keep_130 rfl ?_
        refine va_get (D := (dC, dI)) (ci := 5) (v := .int f14) (C := RX5) (T := TX5) (N := 30) hx hb hta inA_X5 hown hK hP 0 rfl rfl 23 (by decide) (hta _ aw_534) (fun _ h9 => h9) rfl dX5_keep_131 ?_
        refine lv_iconst (v := 1) hx hb dX5_keep_134 (by decide) ?_
        refine lv_iadd hx hb dX5_keep_135 ?_
        refine va_put (D := (dC, dI)) (ci := 5) (v := .int (f14 + (1 : Int32))) (ty := .int) (C := RX5) (T := TX5) (N := 30) hx hb hta inA_X5 tyX5 tyX5_ok nmX5 hown hK hP hD hS 0 rfl rfl 23 (by decide) (hta _ aw_534) (fun _ h9 => h9) rfl (by decide +kernel) rfl rfl (Nat.le_of_ble_eq_true rfl) dX5_keep_136 (fun H locs hP hD hS => ?_)
        have hP : va_P (dC, dI) vwCl (MWl ga gk th L N mm f1 mr mh f8 en_7 us eC_7 eL_7 eB_7 eF_7 eR_7 eU_7 eX_7 f2 f3 f4 f5 f6 f7 (f14 + (1 : Int32)) ff fa mn lg cm wa) H := hP
        have hD : va_D A (MWl ga gk th L N mm f1 mr mh f8 en_7 us eC_7 eL_7 eB_7 eF_7 eR_7 eU_7 eX_7 f2 f3 f4 f5 f6 f7 (f14 + (1 : Int32)) ff fa mn lg cm wa) := hD
        obtain ⟨he9, hz9⟩ := drop_ok hw_7 hzx
        exact tail _ _ _ _ _ _ _ _ _ bits9 (by omega) hz9 (by rw [hm]; show mK3 _ _ _ _ _ _ (mX5_drop en1 eC1 eL1 eB1 eF1 eR1 eU1 eX1 o) = _; rw [← hw_7]) H locs hP hD hS ls (lv_sub hl [2, 3, 4] rfl)
      · exact absurd (nI_le (by omega) (by omega)) c_92_5
    | succ j ih =>
      intro i o henN h1en hzx hi hoi hm H locs hP hD hS ls hl
      refine lv_iload hx hb dX5_keep_86 (lv_at hl 0 rfl) ?_
      refine lv_aload_n hx hb dX5_keep_88 rfl (lv_at hl 2 rfl) ?_
      refine va_get (D := (dC, dI)) (ci := 5) (v := .int (nI en1)) (C := RX5) (T := TX5) (N := 30) hx hb hta inA_X5 hown hK hP 0 rfl rfl 8 (by decide) (hta _ aw_519) (fun _ h9 => h9) rfl dX5_keep_89 ?_
      refine lv_icmp_ge (tgt := 124) hx hb dX5_keep_92 (by decide) (fun c_92_7 => ?_) (fun c_92_7 => ?_)
      · exact absurd c_92_7 (nI_ge (by omega) (by omega))
      · refine lv_aload_n hx hb dX5_keep_95 rfl (lv_at hl 2 rfl) ?_
        refine va_get (D := (dC, dI)) (ci := 5) (v := .ref (ga 9)) (C := RX5) (T := TX5) (N := 30) hx hb hta inA_X5 hown hK hP 0 rfl rfl 15 (by decide) (hta _ aw_526) (fun _ h9 => h9) rfl dX5_keep_96 ?_
        refine lv_iload hx hb dX5_keep_99 (lv_at hl 0 rfl) ?_
        refine va_iald hx hb hK hP 9 8 rfl rfl (vp_in_nI (by omega) (by omega)) dX5_keep_101 ?_
        rw [nI_clamp (show i < 2 ^ 31 by omega)]
        refine lv_aload_n hx hb dX5_keep_102 rfl (lv_at hl 2 rfl) ?_
        refine va_get (D := (dC, dI)) (ci := 5) (v := .ref (ga 9)) (C := RX5) (T := TX5) (N := 30) hx hb hta inA_X5 hown hK hP 0 rfl rfl 15 (by decide) (hta _ aw_526) (fun _ h9 => h9) rfl dX5_keep_103 ?_
        refine lv_iload_n hx hb dX5_keep_106 rfl (lv_at hl 1 rfl) ?_
        refine va_iald hx hb hK hP 9 8 rfl rfl (vp_in_nI (by omega) (by omega)) dX5_keep_107 ?_
        rw [nI_clamp (show o < 2 ^ 31 by omega)]
        refine lv_icmp_ge (tgt := 116) hx hb dX5_keep_108 (by decide) (fun c_108_8 => ?_) (fun c_108_8 => ?_)
        · refine lv_iload_n hx hb dX5_keep_116 rfl (lv_at hl 1 rfl) ?_
          refine lv_istore_n (lv' := [(3, .int (nI o)), (4, .int (nI i)), (0, .ref (ga 0)), (1, .int p0), (2, .int bits9)]) hx hb dX5_keep_117 rfl hl (by decide) rfl (fun ls hl => ?_)
          refine lv_iinc (v := nI (i + 1)) (lv' := [(4, .int (nI (i + 1))), (3, .int (nI o)), (0, .ref (ga 0)), (1, .int p0), (2, .int bits9)]) hx hb dX5_keep_118 hl (k := 1) rfl (cx_inc i 1 rfl) (by decide) rfl (fun ls hl => ?_)
          refine lv_goto (tgt := 86) hx hb dX5_keep_121 (by decide) ?_
          exact ih (i + 1) o henN h1en hzx (by omega) (by omega) (by rw [hm, mOld, if_pos c_108_8]) H locs hP hD hS ls (lv_sub hl [0, 1, 2, 3, 4] rfl)
        · refine lv_iload hx hb dX5_keep_111 (lv_at hl 0 rfl) ?_
          refine lv_goto (tgt := 117) hx hb dX5_keep_113 (by decide) ?_
          refine lv_istore_n (lv' := [(3, .int (nI i)), (4, .int (nI i)), (0, .ref (ga 0)), (1, .int p0), (2, .int bits9)]) hx hb dX5_keep_117 rfl hl (by decide) rfl (fun ls hl => ?_)
          refine lv_iinc (v := nI (i + 1)) (lv' := [(4, .int (nI (i + 1))), (3, .int (nI i)), (0, .ref (ga 0)), (1, .int p0), (2, .int bits9)]) hx hb dX5_keep_118 hl (k := 1) rfl (cx_inc i 1 rfl) (by decide) rfl (fun ls hl => ?_)
          refine lv_goto (tgt := 86) hx hb dX5_keep_121 (by decide) ?_
          exact ih (i + 1) i henN h1en hzx (by omega) (by omega) (by rw [hm, mOld, if_neg c_108_8]) H locs hP hD hS ls (lv_sub hl [0, 1, 2, 3, 4] rfl)
  have loop : ∀ (k9 : Nat) (en1 : Nat) (eC1 eL1 eB1 eF1 eR1 eU1 eX1 : Nat → Int32), k9 ≤ en1 → en1 ≤ N → (∀ i, ZB (eX1 i)) → mK1 f1 lg (p0 >>> (((8 : Int32) + ((4 : Int32) * lg)) &&& 31)) en (en, eC, eL, eB, eF, eR, eU, eX) = mK1 f1 lg (p0 >>> (((8 : Int32) + ((4 : Int32) * lg)) &&& 31)) k9 (en1, eC1, eL1, eB1, eF1, eR1, eU1, eX1) → ∀ (H : Heap) (locs : List Loc), va_P (dC, dI) vwCl (MWl ga gk th L N mm f1 mr mh f8 en1 us eC1 eL1 eB1 eF1 eR1 eU1 eX1 f2 f3 f4 f5 f6 f7 f14 ff fa mn lg cm wa) H → va_D A (MWl ga gk th L N mm f1 mr mh f8 en1 us eC1 eL1 eB1 eF1 eR1 eU1 eX1 f2 f3 f4 f5 f6 f7 f14 ff fa mn lg cm wa) → va_S A s.heap H locs → ∀ (ls : Array Slot), lv_has ls 5 [(3, .int (predI k9)), (2, .int (p0 >>> (((8 : Int32) + ((4 : Int32) * lg)) &&& 31))), (0, .ref (ga 0)), (1, .int p0)] → W p l e ({ frames := 1, cells := 0, slots := 0, locals := 21 }) s m [.ref (ga 0), .int p0].toArray below meth c H locs 0 0 (MQ below (va_Qv (fun (u : Nat × Nat × (Nat → Int32) × (Nat → Int32) × (Nat → Int32) × (Nat → Int32) × (Nat → Int32) × (Nat → Int32) × (Nat → Int32) × Int32) => u = mKeep N f1 lg (p0 >>> (((8 : Int32) + ((4 : Int32) * lg)) &&& 31)) (mm (wa (mn - 1)).toNatClampNeg) us f14 (mK1 f1 lg (p0 >>> (((8 : Int32) + ((4 : Int32) * lg)) &&& 31)) en (en, eC, eL, eB, eF, eR, eU, eX))) (fun (u : Nat × Nat × (Nat → Int32) × (Nat → Int32) × (Nat → Int32) × (Nat → Int32) × (Nat → Int32) × (Nat → Int32) × (Nat → Int32) × Int32) (t : State) => match u with | (en', us', eC', eL', eB', eF', eR', eU', eX', f14') => va_P (dC, dI) vwCl (MWl ga gk th L N mm f1 mr mh f8 en' us' eC' eL' eB' eF' eR' eU' eX' f2 f3 f4 f5 f6 f7 f14' ff fa mn lg cm wa) t.heap ∧ va_K (dC, dI) vwCl [(gk 0, .long), (gk 1, .int), (gk 2, .int), (gk 3, .int), (gk 4, .int), (gk 5, .int), (gk 6, .int), (gk 7, .int), (gk 8, .int), (gk 9, .boolean), (gk 10, .int)] t ∧ va_D A (MWl ga gk th L N mm f1 mr mh f8 en' us' eC' eL' eB' eF' eR' eU' eX' f2 f3 f4 f5 f6 f7 f14' ff fa mn lg cm wa)) A) [.ref (ga 0), .int p0].toArray s 0 0 A) (F0 m 19 ls []) := by
    intro k9
    induction k9 with
    | zero =>
      intro en1 eC1 eL1 eB1 eF1 eR1 eU1 eX1 hk hen1 hzx hm H locs hP hD hS ls hl
      have hl : lv_has ls 5 [(3, .int (-1 : Int32)), (2, .int (p0 >>> (((8 : Int32) + ((4 : Int32) * lg)) &&& 31))), (0, .ref (ga 0)), (1, .int p0)] := hl
      refine lv_iload_n hx hb dX5_keep_19 rfl (lv_at hl 0 rfl) ?_
      refine lv_if_lt (tgt := 70) hx hb dX5_keep_20 (by decide) (fun c_20_9 => ?_) (fun c_20_9 => ?_)
      · refine lv_aload_n hx hb dX5_keep_70 rfl (lv_at hl 2 rfl) ?_
        refine va_get (D := (dC, dI)) (ci := 5) (v := .int (nI en1)) (C := RX5) (T := TX5) (N := 30) hx hb hta inA_X5 hown hK hP 0 rfl rfl 8 (by decide) (hta _ aw_519) (fun _ h9 => h9) rfl dX5_keep_71 ?_
        refine lv_aload_n hx hb dX5_keep_74 rfl (lv_at hl 2 rfl) ?_
        refine va_get (D := (dC, dI)) (ci := 5) (v := .int (nI N)) (C := RX5) (T := TX5) (N := 30) hx hb hta inA_X5 hown hK hP 0 rfl rfl 2 (by decide) (hta _ aw_513) (fun _ h9 => h9) rfl dX5_keep_75 ?_
        refine lv_icmp_ne (tgt := 139) hx hb dX5_keep_78 (by decide) (fun c_78_10 => ?_) (fun c_78_10 => ?_)
        · have hne9 : ¬ en1 = N := fun q => absurd (by rw [q]) c_78_10
          exact tail _ _ _ _ _ _ _ _ f14 _ (by omega) hzx (by unfold mKeep; rw [hm]; show (if en1 = N then _ else _) = _; rw [if_neg hne9]; rfl) H locs hP hD hS ls (lv_sub hl [2, 3, 1] rfl)
        · refine lv_iconst (v := 0) hx hb dX5_keep_81 (by decide) ?_
          refine lv_istore_n (lv' := [(3, .int (0 : Int32)), (2, .int (p0 >>> (((8 : Int32) + ((4 : Int32) * lg)) &&& 31))), (0, .ref (ga 0)), (1, .int p0)]) hx hb dX5_keep_82 rfl hl (by decide) rfl (fun ls hl => ?_)
          refine lv_iconst (v := 1) hx hb dX5_keep_83 (by decide) ?_
          refine lv_istore (lv' := [(4, .int (1 : Int32)), (3, .int (0 : Int32)), (2, .int (p0 >>> (((8 : Int32) + ((4 : Int32) * lg)) &&& 31))), (0, .ref (ga 0)), (1, .int p0)]) hx hb dX5_keep_84 hl (by decide) rfl (fun ls hl => ?_)
          have heq9 : en1 = N := (nI_eq (by omega) (by omega)).mp c_78_10
          exact old _ _ _ _ _ _ _ _ _ (en1 - 1) 1 0 heq9 (by omega) hzx (by omega) (by omega) (by unfold mKeep; rw [hm]; show (if en1 = N then _ else _) = _; rw [if_pos heq9]; rfl) H locs hP hD hS ls (lv_sub hl [0, 1, 3, 4, 2] rfl)
      · exact absurd (by decide) c_20_9
    | succ k9 ih =>
      intro en1 eC1 eL1 eB1 eF1 eR1 eU1 eX1 hk hen1 hzx hm H locs hP hD hS ls hl
      have hl : lv_has ls 5 [(3, .int (nI k9)), (2, .int (p0 >>> (((8 : Int32) + ((4 : Int32) * lg)) &&& 31))), (0, .ref (ga 0)), (1, .int p0)] := hl
      refine lv_iload_n hx hb dX5_keep_19 rfl (lv_at hl 0 rfl) ?_
      refine lv_if_lt (tgt := 70) hx hb dX5_keep_20 (by decide) (fun c_20_11 => ?_) (fun c_20_11 => ?_)
      · exact absurd c_20_11 (nI_pos (by omega))
      · refine lv_aload_n hx hb dX5_keep_23 rfl (lv_at hl 2 rfl) ?_
        refine va_get (D := (dC, dI)) (ci := 5) (v := .ref (ga 4)) (C := RX5) (T := TX5) (N := 30) hx hb hta inA_X5 hown hK hP 0 rfl rfl 10 (by decide) (hta _ aw_521) (fun _ h9 => h9) rfl dX5_keep_24 ?_
        refine lv_iload_n hx hb dX5_keep_27 rfl (lv_at hl 0 rfl) ?_
        refine va_iald hx hb hK hP 4 3 rfl rfl (vp_in_nI (by omega) (by omega)) dX5_keep_28 ?_
        rw [nI_clamp (show k9 < 2 ^ 31 by omega)]
        refine lv_aload_n hx hb dX5_keep_29 rfl (lv_at hl 2 rfl) ?_
        refine va_get (D := (dC, dI)) (ci := 5) (v := .int f1) (C := RX5) (T := TX5) (N := 30) hx hb hta inA_X5 hown hK hP 0 rfl rfl 4 (by decide) (hta _ aw_515) (fun _ h9 => h9) rfl dX5_keep_30 ?_
        refine lv_icmp_ne (tgt := 64) hx hb dX5_keep_33 (by decide) (fun c_33_12 => ?_) (fun c_33_12 => ?_)
        · refine lv_iinc (v := predI k9) (lv' := [(3, .int (predI k9)), (2, .int (p0 >>> (((8 : Int32) + ((4 : Int32) * lg)) &&& 31))), (0, .ref (ga 0)), (1, .int p0)]) hx hb dX5_keep_64 hl (k := 0) rfl (predI_dec k9 rfl) (by decide) rfl (fun ls hl => ?_)
          refine lv_goto (tgt := 19) hx hb dX5_keep_67 (by decide) ?_
          exact ih _ _ _ _ _ _ _ _ (by omega) hen1 hzx (by rewrite [hm, mK1]; rewrite [if_neg c_33_12]; (first | done | rfl)) H locs hP hD hS ls (lv_sub hl [0, 1, 2, 3] rfl)
        · refine lv_aload_n hx hb dX5_keep_36 rfl (lv_at hl 2 rfl) ?_
          refine va_get (D := (dC, dI)) (ci := 5) (v := .ref (ga 5)) (C := RX5) (T := TX5) (N := 30) hx hb hta inA_X5 hown hK hP 0 rfl rfl 11 (by decide) (hta _ aw_522) (fun _ h9 => h9) rfl dX5_keep_37 ?_
          refine lv_iload_n hx hb dX5_keep_40 rfl (lv_at hl 0 rfl) ?_
          refine va_iald hx hb hK hP 5 4 rfl rfl (vp_in_nI (by omega) (by omega)) dX5_keep_41 ?_
          rw [nI_clamp (show k9 < 2 ^ 31 by omega)]
          refine lv_aload_n hx hb dX5_keep_42 rfl (lv_at hl 2 rfl) ?_
          refine va_get (D := (dC, dI)) (ci := 5) (v := .int lg) (C := RX5) (T := TX5) (N := 30) hx hb hta inA_X5 hown hK hP 0 rfl rfl 27 (by decide) (hta _ aw_538) (fun _ h9 => h9) rfl dX5_keep_43 ?_
          refine lv_icmp_ne (tgt := 64) hx hb dX5_keep_46 (by decide) (fun c_46_13 => ?_) (fun c_46_13 => ?_)
          · refine lv_iinc (v := predI k9) (lv' := [(3, .int (predI k9)), (2, .int (p0 >>> (((8 : Int32) + ((4 : Int32) * lg)) &&& 31))), (0, .ref (ga 0)), (1, .int p0)]) hx hb dX5_keep_64 hl (k := 0) rfl (predI_dec k9 rfl) (by decide) rfl (fun ls hl => ?_)
            refine lv_goto (tgt := 19) hx hb dX5_keep_67 (by decide) ?_
            exact ih _ _ _ _ _ _ _ _ (by omega) hen1 hzx (by rewrite [hm, mK1]; rewrite [if_pos c_33_12]; rewrite [if_neg c_46_13]; (first | done | rfl)) H locs hP hD hS ls (lv_sub hl [0, 1, 2, 3] rfl)
          · refine lv_aload_n hx hb dX5_keep_49 rfl (lv_at hl 2 rfl) ?_
            refine va_get (D := (dC, dI)) (ci := 5) (v := .ref (ga 6)) (C := RX5) (T := TX5) (N := 30) hx hb hta inA_X5 hown hK hP 0 rfl rfl 12 (by decide) (hta _ aw_523) (fun _ h9 => h9) rfl dX5_keep_50 ?_
            refine lv_iload_n hx hb dX5_keep_53 rfl (lv_at hl 0 rfl) ?_
            refine va_iald hx hb hK hP 6 5 rfl rfl (vp_in_nI (by omega) (by omega)) dX5_keep_54 ?_
            rw [nI_clamp (show k9 < 2 ^ 31 by omega)]
            refine lv_iload_n hx hb dX5_keep_55 rfl (lv_at hl 1 rfl) ?_
            refine lv_icmp_ne (tgt := 64) hx hb dX5_keep_56 (by decide) (fun c_56_14 => ?_) (fun c_56_14 => ?_)
            · refine lv_iinc (v := predI k9) (lv' := [(3, .int (predI k9)), (2, .int (p0 >>> (((8 : Int32) + ((4 : Int32) * lg)) &&& 31))), (0, .ref (ga 0)), (1, .int p0)]) hx hb dX5_keep_64 hl (k := 0) rfl (predI_dec k9 rfl) (by decide) rfl (fun ls hl => ?_)
              refine lv_goto (tgt := 19) hx hb dX5_keep_67 (by decide) ?_
              exact ih _ _ _ _ _ _ _ _ (by omega) hen1 hzx (by rewrite [hm, mK1]; rewrite [if_pos c_33_12]; rewrite [if_pos c_46_13]; rewrite [if_neg c_56_14]; (first | done | rfl)) H locs hP hD hS ls (lv_sub hl [0, 1, 2, 3] rfl)
            · refine lv_aload_n hx hb dX5_keep_59 rfl (lv_at hl 2 rfl) ?_
              refine lv_iload_n hx hb dX5_keep_60 rfl (lv_at hl 0 rfl) ?_
              have hFc : ∀ q, va_A (MWl ga gk th L N mm f1 mr mh f8 en1 us eC1 eL1 eB1 eF1 eR1 eU1 eX1 f2 f3 f4 f5 f6 f7 f14 ff fa mn lg cm wa) H.size q → A q := cx_free hD hS hA
              refine va_callv (va_runV (As := [.int (nI k9)]) (rest := []) ⟨hx, hb, hml, hown, hta⟩ (c_X5_drop l dC dI ga gk th L N mm f1 mr mh f8 en1 us eC1 eL1 eB1 eF1 eR1 eU1 eX1 f2 f3 f4 f5 f6 f7 f14 ff fa mn lg cm wa H.size k9 (by omega) (by omega) (by omega) hzx) (cwV 1 hta (gV aw_711 aw_713 aw_34 aw_43 aw_714) rfl rfl rfl (by decide +kernel) ⟨Nat.le_of_ble_eq_true rfl, Nat.le_of_ble_eq_true rfl⟩) (cx_preVQ hK hP hN (va_recv hK hP (ci := 5) (q0 := 0) rfl rfl) hD) rfl rfl hl.1 rfl (lv_room (Nat.le_of_ble_eq_true rfl)) dX5_keep_61 ⟨Nat.le_of_ble_eq_true rfl, Nat.le_of_ble_eq_true rfl⟩) hS (fun q _ h => hFc q h) hFc (fun u t9 H1 locs ht hvm hw_16 hB hz1 hk1 hS => ?_)
              obtain ⟨en_16, eC_16, eL_16, eB_16, eF_16, eR_16, eU_16, eX_16⟩ := u
              obtain ⟨hP, hK1, hD1⟩ := hB
              rw [ht] at hP
              have hD := hD1.weaken (fun _ _ _ h => hFc _ h)
              clear hFc hz1 hk1 hK1 hD1 ht hvm
              generalize H1 = H at hP hS ⊢
              have hP : va_P (dC, dI) vwCl (MWl ga gk th L N mm f1 mr mh f8 en_16 us eC_16 eL_16 eB_16 eF_16 eR_16 eU_16 eX_16 f2 f3 f4 f5 f6 f7 f14 ff fa mn lg cm wa) H := hP
              have hD : va_D A (MWl ga gk th L N mm f1 mr mh f8 en_16 us eC_16 eL_16 eB_16 eF_16 eR_16 eU_16 eX_16 f2 f3 f4 f5 f6 f7 f14 ff fa mn lg cm wa) := hD
              refine lv_iinc (v := predI k9) (lv' := [(3, .int (predI k9)), (2, .int (p0 >>> (((8 : Int32) + ((4 : Int32) * lg)) &&& 31))), (0, .ref (ga 0)), (1, .int p0)]) hx hb dX5_keep_64 hl (k := 0) rfl (predI_dec k9 rfl) (by decide) rfl (fun ls hl => ?_)
              refine lv_goto (tgt := 19) hx hb dX5_keep_67 (by decide) ?_
              obtain ⟨he9, hz9⟩ := drop_ok hw_16 hzx
              exact ih _ _ _ _ _ _ _ _ (by omega) (by omega) hz9 (by rewrite [hm, mK1]; rewrite [if_pos c_33_12]; rewrite [if_pos c_46_13]; rewrite [if_pos c_56_14]; show mK1 _ _ _ _ (mX5_drop en1 eC1 eL1 eB1 eF1 eR1 eU1 eX1 k9) = _; rewrite [← hw_16]; rfl) H locs hP hD hS ls (lv_sub hl [0, 1, 2, 3] rfl)
  refine lv_iload_n hx hb dX5_keep_0 rfl (lv_at hl 1 rfl) ?_
  refine lv_bipush (v := 8) hx hb dX5_keep_1 (by decide) ?_
  refine lv_iconst (v := 4) hx hb dX5_keep_3 (by decide) ?_
  refine lv_aload_n hx hb dX5_keep_4 rfl (lv_at hl 0 rfl) ?_
  refine va_get (D := (dC, dI)) (ci := 5) (v := .int lg) (C := RX5) (T := TX5) (N := 30) hx hb hta inA_X5 hown hK hP 0 rfl rfl 27 (by decide) (hta _ aw_538) (fun _ h9 => h9) rfl dX5_keep_5 ?_
  refine lv_imul hx hb dX5_keep_8 ?_
  refine lv_iadd hx hb dX5_keep_9 ?_
  refine lv_ishr hx hb dX5_keep_10 ?_
  refine lv_istore_n (lv' := [(2, .int (p0 >>> (((8 : Int32) + ((4 : Int32) * lg)) &&& 31))), (0, .ref (ga 0)), (1, .int p0)]) hx hb dX5_keep_11 rfl hl (by decide) rfl (fun ls hl => ?_)
  refine lv_aload_n hx hb dX5_keep_12 rfl (lv_at hl 1 rfl) ?_
  refine va_get (D := (dC, dI)) (ci := 5) (v := .int (nI en)) (C := RX5) (T := TX5) (N := 30) hx hb hta inA_X5 hown hK hP 0 rfl rfl 8 (by decide) (hta _ aw_519) (fun _ h9 => h9) rfl dX5_keep_13 ?_
  refine lv_iconst (v := 1) hx hb dX5_keep_16 (by decide) ?_
  refine lv_isub hx hb dX5_keep_17 ?_
  rw [show (nI en) - (1 : Int32) = predI en from predI_eq en]
  refine lv_istore_n (lv' := [(3, .int (predI en)), (2, .int (p0 >>> (((8 : Int32) + ((4 : Int32) * lg)) &&& 31))), (0, .ref (ga 0)), (1, .int p0)]) hx hb dX5_keep_18 rfl hl (by decide) rfl (fun ls hl => ?_)
  exact loop en _ _ _ _ _ _ _ _ (Nat.le_refl en) hen hzx0 rfl s.heap [] hP hD hS ls (lv_sub hl [0, 1, 2, 3] rfl)
