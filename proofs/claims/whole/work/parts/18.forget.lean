/-- Entries.forget: at row i, j rows left, t rows stay -/
def mForL (E : Nat → Nat → Int32) (p0 p1 p2 : Int32) : Nat → Nat → Nat → (Nat → Option Nat) → Nat × (Nat → Option Nat)
  | 0, _, t, r => (t, r)
  | j + 1, i, t, r => if mX0_isMeant E (rowA r i) p0 p1 p2 = 0 then mForL E p0 p1 p2 j (i + 1) (t + 1) (va_up (va_up r i (some (rowA r t))) t (some (rowA r i))) else mForL E p0 p1 p2 j (i + 1) t r
/-- two rows change places: the rows stay good -/
theorem swap_ok {N : Nat} {LP : List Nat} {r : Nat → Option Nat} (h : ∀ i, i < N → r i = some (rowA r i) ∧ rowA r i ∈ LP) {i t : Nat} (hi : i < N) (ht : t < N) : ∀ j, j < N → (va_up (va_up r i (some (rowA r t))) t (some (rowA r i))) j = some (rowA (va_up (va_up r i (some (rowA r t))) t (some (rowA r i))) j) ∧ rowA (va_up (va_up r i (some (rowA r t))) t (some (rowA r i))) j ∈ LP := by
  intro j hj
  have key : ∃ y, (va_up (va_up r i (some (rowA r t))) t (some (rowA r i))) j = some y ∧ y ∈ LP := by
    by_cases h1 : j = t
    · subst h1
      exact ⟨_, va_up_self _ _ _, (h i hi).2⟩
    · rw [va_up_ne _ _ h1]
      by_cases h2 : j = i
      · subst h2
        exact ⟨_, va_up_self _ _ _, (h t ht).2⟩
      · rw [va_up_ne _ _ h2]
        exact ⟨_, (h j hj).1, (h j hj).2⟩
  obtain ⟨y, e1, e2⟩ := key
  rw [rowA_some e1]
  exact ⟨e1, e2⟩
theorem mForL_le (E : Nat → Nat → Int32) (p0 p1 p2 : Int32) : ∀ (j i t : Nat) (r : Nat → Option Nat), (mForL E p0 p1 p2 j i t r).1 ≤ t + j
  | 0, _, t, _ => Nat.le_refl t
  | j + 1, i, t, r => by
    unfold mForL
    split
    · have := mForL_le E p0 p1 p2 j (i + 1) (t + 1) (va_up (va_up r i (some (rowA r t))) t (some (rowA r i)))
      omega
    · have := mForL_le E p0 p1 p2 j (i + 1) t r
      omega
def mFor (n : Nat) (x : Nat × (Nat → Option Nat)) : Int32 × Nat × (Nat → Option Nat) := (nI (n - x.1), x.1, x.2)

set_option maxHeartbeats 4000000 in
set_option maxRecDepth 100000 in
theorem c_X0_forget (l : Launch) (dC : Nat → ClassId) (dI : Nat → Nat → Nat) (a : Nat → Nat) (k : Nat → ClassId) (LP : List Nat) (N : Nat) (L : Nat) (f1 f2 f3 f4 f5 f6 f7 f8 : Int32) (rd : Nat) (f10 f11 f12 : Int32) (n : Nat) (f14 : Int32) (lf : Int64) (wd : Nat → Int64) (ho ro pa : Nat → Int32) (rs : Nat → Option Nat) (E : Nat → Nat → Int32)  (sz : Nat) (p0 : Int32) (p1 : Int32) (p2 : Int32) (hn : n ≤ N) (hN32 : N ≤ 32) (hrow : ∀ i, i < N → rs i = some (rowA rs i) ∧ rowA rs i ∈ LP) : Met l yX0_forget (wX0_forget :: AW) ({ frames := 3, cells := 0, slots := 0, locals := 65 }) (va_Pc [.ref (a 6), .int p0, .int p1, .int p2] (CPrQ dC dI (CWl a k LP N L f1 f2 f3 f4 f5 f6 f7 f8 rd f10 f11 f12 n f14 lf wd ho ro pa rs E) [(k 0, .long), (k 1, .int), (k 2, .int), (k 3, .object "PageRows$Entry"), (k 4, .int)] sz)) (va_Qi (fun (r : Int32) (u : Nat × (Nat → Option Nat)) => (r, u) = mFor n (mForL E p0 p1 p2 n 0 0 rs)) (fun (u : Nat × (Nat → Option Nat)) (t : State) => match u with | (n', rs') => va_P (dC, dI) vwCl (CWl a k LP N L f1 f2 f3 f4 f5 f6 f7 f8 rd f10 f11 f12 n' f14 lf wd ho ro pa rs' E) t.heap ∧ va_K (dC, dI) vwCl [(k 0, .long), (k 1, .int), (k 2, .int), (k 3, .object "PageRows$Entry"), (k 4, .int)] t ∧ va_D (va_A (CWl a k LP N L f1 f2 f3 f4 f5 f6 f7 f8 rd f10 f11 f12 n f14 lf wd ho ro pa rs E) sz) (CWl a k LP N L f1 f2 f3 f4 f5 f6 f7 f8 rd f10 f11 f12 n' f14 lf wd ho ro pa rs' E)) (va_A (CWl a k LP N L f1 f2 f3 f4 f5 f6 f7 f8 rd f10 f11 f12 n f14 lf wd ho ro pa rs E) sz)) 0 0 (va_A (CWl a k LP N L f1 f2 f3 f4 f5 f6 f7 f8 rd f10 f11 f12 n f14 lf wd ho ro pa rs E) sz) := by
  refine cx_of (cc := cX0_forget) (maxL := 7) (ret := some .int) (by decide) rfl (Nat.le_of_ble_eq_true rfl) ?_
  intro p e s m below meth c ls hx hb hr hts hown hlocks hml hnm hl hB
  have hta : ∀ w ∈ AW, w.before [.ref (a 6), .int p0, .int p1, .int p2].toArray s = true := fun w h => hts w (List.mem_cons_of_mem _ h)
  have hl : lv_has ls 7 [(0, .ref (a 6)), (1, .int p0), (2, .int p1), (3, .int p2)] := hl
  have hown : s.vm.findClass RX0 = some m.cls := hown
  obtain ⟨rfl, ⟨hP, hK, hN⟩, hD0⟩ := hB
  have hD := hD0.self (sz := s.heap.size)
  generalize hAe : va_A (CWl a k LP N L f1 f2 f3 f4 f5 f6 f7 f8 rd f10 f11 f12 n f14 lf wd ho ro pa rs E) s.heap.size = A at hD ⊢
  have hA : ∀ q : Nat, s.heap.size ≤ q → A q := fun q h => by rw [← hAe]; exact Or.inr h
  have hS : va_S A s.heap s.heap [] := va_S.rf
  have loop : ∀ (j i t : Nat) (r : Nat → Option Nat), i + j = n → t ≤ i → (∀ i, i < N → r i = some (rowA r i) ∧ rowA r i ∈ LP) → mForL E p0 p1 p2 n 0 0 rs = mForL E p0 p1 p2 j i t r → ∀ (H : Heap) (locs : List Loc), va_P (dC, dI) vwCl (CWl a k LP N L f1 f2 f3 f4 f5 f6 f7 f8 rd f10 f11 f12 n f14 lf wd ho ro pa r E) H → va_D A (CWl a k LP N L f1 f2 f3 f4 f5 f6 f7 f8 rd f10 f11 f12 n f14 lf wd ho ro pa r E) → va_S A s.heap H locs → ∀ (ls : Array Slot), lv_has ls 7 [(5, .int (nI i)), (4, .int (nI t)), (0, .ref (a 6)), (1, .int p0), (2, .int p1), (3, .int p2)] → W p l e ({ frames := 3, cells := 0, slots := 0, locals := 65 }) s m [.ref (a 6), .int p0, .int p1, .int p2].toArray below meth c H locs 0 0 (MQ below (va_Qi (fun (r : Int32) (u : Nat × (Nat → Option Nat)) => (r, u) = mFor n (mForL E p0 p1 p2 n 0 0 rs)) (fun (u : Nat × (Nat → Option Nat)) (t : State) => match u with | (n', rs') => va_P (dC, dI) vwCl (CWl a k LP N L f1 f2 f3 f4 f5 f6 f7 f8 rd f10 f11 f12 n' f14 lf wd ho ro pa rs' E) t.heap ∧ va_K (dC, dI) vwCl [(k 0, .long), (k 1, .int), (k 2, .int), (k 3, .object "PageRows$Entry"), (k 4, .int)] t ∧ va_D A (CWl a k LP N L f1 f2 f3 f4 f5 f6 f7 f8 rd f10 f11 f12 n' f14 lf wd ho ro pa rs' E)) A) [.ref (a 6), .int p0, .int p1, .int p2].toArray s 0 0 A) (F0 m 6 ls []) := by
    intro j
    induction j with
    | zero =>
      intro i t r hi hti hrow hm H locs hP hD hS ls hl
      refine lv_iload hx hb dX0_forget_6 (lv_at hl 0 rfl) ?_
      refine lv_aload_n hx hb dX0_forget_8 rfl (lv_at hl 2 rfl) ?_
      refine va_get (D := (dC, dI)) (ci := 0) (v := .int (nI n)) (C := RX0) (T := TX0) (N := 3) hx hb hta inA_X0 hown hK hP 6 rfl rfl 1 (by decide) (hta _ aw_161) (fun _ h9 => h9) rfl dX0_forget_9 ?_
      refine lv_icmp_ge (tgt := 67) hx hb dX0_forget_12 (by decide) (fun c_12_0 => ?_) (fun c_12_0 => ?_)
      · refine lv_aload_n hx hb dX0_forget_67 rfl (lv_at hl 2 rfl) ?_
        refine va_get (D := (dC, dI)) (ci := 0) (v := .int (nI n)) (C := RX0) (T := TX0) (N := 3) hx hb hta inA_X0 hown hK hP 6 rfl rfl 1 (by decide) (hta _ aw_161) (fun _ h9 => h9) rfl dX0_forget_68 ?_
        refine lv_iload hx hb dX0_forget_71 (lv_at hl 1 rfl) ?_
        refine lv_isub hx hb dX0_forget_73 ?_
        rw [show (nI n) - (nI t) = nI (n - t) from pk_sub (show t ≤ n by omega)]
        refine lv_istore (lv' := [(5, .int (nI (n - t))), (4, .int (nI t)), (0, .ref (a 6)), (1, .int p0), (2, .int p1), (3, .int p2)]) hx hb dX0_forget_74 hl (by decide) rfl (fun ls hl => ?_)
        refine lv_aload_n hx hb dX0_forget_76 rfl (lv_at hl 2 rfl) ?_
        refine lv_iload hx hb dX0_forget_77 (lv_at hl 1 rfl) ?_
        refine va_put (D := (dC, dI)) (ci := 0) (v := .int (nI t)) (ty := .int) (C := RX0) (T := TX0) (N := 3) hx hb hta inA_X0 tyX0 tyX0_ok nmX0 hown hK hP hD hS 6 rfl rfl 1 (by decide) (hta _ aw_161) (fun _ h9 => h9) rfl (by decide +kernel) rfl rfl (Nat.le_of_ble_eq_true rfl) dX0_forget_79 (fun H locs hP hD hS => ?_)
        have hP : va_P (dC, dI) vwCl (CWl a k LP N L f1 f2 f3 f4 f5 f6 f7 f8 rd f10 f11 f12 t f14 lf wd ho ro pa r E) H := hP
        have hD : va_D A (CWl a k LP N L f1 f2 f3 f4 f5 f6 f7 f8 rd f10 f11 f12 t f14 lf wd ho ro pa r E) := hD
        refine lv_iload hx hb dX0_forget_82 (lv_at hl 0 rfl) ?_
        exact W.iret (v := nI (n - t)) hx hb hr (fun t9 ht hW => ⟨⟨nI (n - t), (t, r), rfl, (by rw [hm]; rfl), by rw [ht]; exact hP, va_K.moved hW.alike hK, hD⟩, hS.F ht⟩) hS.2.2 dX0_forget_84
      · exact absurd (nI_le (by omega) (by omega)) c_12_0
    | succ j ih =>
      intro i t r hi hti hrow hm H locs hP hD hS ls hl
      refine lv_iload hx hb dX0_forget_6 (lv_at hl 0 rfl) ?_
      refine lv_aload_n hx hb dX0_forget_8 rfl (lv_at hl 2 rfl) ?_
      refine va_get (D := (dC, dI)) (ci := 0) (v := .int (nI n)) (C := RX0) (T := TX0) (N := 3) hx hb hta inA_X0 hown hK hP 6 rfl rfl 1 (by decide) (hta _ aw_161) (fun _ h9 => h9) rfl dX0_forget_9 ?_
      refine lv_icmp_ge (tgt := 67) hx hb dX0_forget_12 (by decide) (fun c_12_1 => ?_) (fun c_12_1 => ?_)
      · exact absurd c_12_1 (nI_ge (by omega) (by omega))
      · refine lv_aload_n hx hb dX0_forget_15 rfl (lv_at hl 2 rfl) ?_
        refine va_get (D := (dC, dI)) (ci := 0) (v := .ref (a 7)) (C := RX0) (T := TX0) (N := 3) hx hb hta inA_X0 hown hK hP 6 rfl rfl 0 (by decide) (hta _ aw_159) (fun _ h9 => h9) rfl dX0_forget_16 ?_
        refine lv_iload hx hb dX0_forget_19 (lv_at hl 0 rfl) ?_
        refine cx_aald hx hb hK hP 7 3 rfl rfl (vp_in_nI (by omega) (by omega)) (by rw [nI_clamp (by omega)]; exact (hrow i (by omega)).1) dX0_forget_21 ?_
        refine lv_astore (lv' := [(6, .ref (rowA r i)), (5, .int (nI i)), (4, .int (nI t)), (0, .ref (a 6)), (1, .int p0), (2, .int p1), (3, .int p2)]) hx hb dX0_forget_22 hl (by decide) rfl (fun ls hl => ?_)
        refine lv_aload hx hb dX0_forget_24 (lv_at hl 0 rfl) ?_
        refine lv_iload_n hx hb dX0_forget_26 rfl (lv_at hl 4 rfl) ?_
        refine lv_iload_n hx hb dX0_forget_27 rfl (lv_at hl 5 rfl) ?_
        refine lv_iload_n hx hb dX0_forget_28 rfl (lv_at hl 6 rfl) ?_
        refine cx_callSi (va_runS (As := [.ref (rowA r i), .int p0, .int p1, .int p2]) (rest := []) ⟨hx, hb, hml, hown, hta⟩ (c_X0_isMeant l dC dI a k LP N L f1 f2 f3 f4 f5 f6 f7 f8 rd f10 f11 f12 n f14 lf wd ho ro pa r E (rowA r i) ((hrow i (by omega)).2) p0 p1 p2) (va_cwS 4 hta (gS aw_477 aw_478 aw_41 aw_479) rfl rfl rfl (by decide +kernel) ⟨Nat.le_of_ble_eq_true rfl, Nat.le_of_ble_eq_true rfl⟩) (cx_preSS hK hP hN) rfl rfl hl.1 rfl (lv_room (Nat.le_of_ble_eq_true rfl)) dX0_forget_29 ⟨Nat.le_of_ble_eq_true rfl, Nat.le_of_ble_eq_true rfl⟩) (fun r hw_3 => ?_)
        subst hw_3
        refine lv_if_ne (tgt := 61) hx hb dX0_forget_32 (by decide) (fun c_32_3 => ?_) (fun c_32_3 => ?_)
        · refine lv_iinc (v := nI (i + 1)) (lv' := [(5, .int (nI (i + 1))), (6, .ref (rowA r i)), (4, .int (nI t)), (0, .ref (a 6)), (1, .int p0), (2, .int p1), (3, .int p2)]) hx hb dX0_forget_61 hl (k := 1) rfl (cx_inc i 1 rfl) (by decide) rfl (fun ls hl => ?_)
          refine lv_goto (tgt := 6) hx hb dX0_forget_64 (by decide) ?_
          exact ih (i + 1) t r (by omega) (by omega) hrow (by rw [hm, mForL, if_neg c_32_3]) H locs hP hD hS ls (lv_sub hl [0, 2, 3, 4, 5, 6] rfl)
        · refine lv_aload_n hx hb dX0_forget_35 rfl (lv_at hl 3 rfl) ?_
          refine va_get (D := (dC, dI)) (ci := 0) (v := .ref (a 7)) (C := RX0) (T := TX0) (N := 3) hx hb hta inA_X0 hown hK hP 6 rfl rfl 0 (by decide) (hta _ aw_159) (fun _ h9 => h9) rfl dX0_forget_36 ?_
          refine lv_iload hx hb dX0_forget_39 (lv_at hl 1 rfl) ?_
          refine lv_aload_n hx hb dX0_forget_41 rfl (lv_at hl 3 rfl) ?_
          refine va_get (D := (dC, dI)) (ci := 0) (v := .ref (a 7)) (C := RX0) (T := TX0) (N := 3) hx hb hta inA_X0 hown hK hP 6 rfl rfl 0 (by decide) (hta _ aw_159) (fun _ h9 => h9) rfl dX0_forget_42 ?_
          refine lv_iload hx hb dX0_forget_45 (lv_at hl 2 rfl) ?_
          refine cx_aald hx hb hK hP 7 3 rfl rfl (vp_in_nI (by omega) (by omega)) (by rw [nI_clamp (by omega)]; exact (hrow t (by omega)).1) dX0_forget_47 ?_
          obtain ⟨k_5, hk_5⟩ := va_pl_get (X := (CWx a k N L f1 f2 f3 f4 f5 f6 f7 f8 rd f10 f11 f12 n f14 lf wd ho ro pa r)) (f := (CEf E)) (hrow t (by omega)).2
          refine va_astq hx hb hK hP hD hS 7 3 k_5 1 rfl rfl hk_5 rfl (vp_in_nI (by omega) (by omega)) dX0_forget_48 (fun H locs hP hD hS => ?_)
          rw [nI_clamp (show i < 2 ^ 31 by omega)] at hP hD
          have hP : va_P (dC, dI) vwCl (CWl a k LP N L f1 f2 f3 f4 f5 f6 f7 f8 rd f10 f11 f12 n f14 lf wd ho ro pa (va_up r i (some (rowA r t))) E) H := hP
          have hD : va_D A (CWl a k LP N L f1 f2 f3 f4 f5 f6 f7 f8 rd f10 f11 f12 n f14 lf wd ho ro pa (va_up r i (some (rowA r t))) E) := hD
          refine lv_aload_n hx hb dX0_forget_49 rfl (lv_at hl 3 rfl) ?_
          refine va_get (D := (dC, dI)) (ci := 0) (v := .ref (a 7)) (C := RX0) (T := TX0) (N := 3) hx hb hta inA_X0 hown hK hP 6 rfl rfl 0 (by decide) (hta _ aw_159) (fun _ h9 => h9) rfl dX0_forget_50 ?_
          refine lv_iload hx hb dX0_forget_53 (lv_at hl 2 rfl) ?_
          refine lv_aload hx hb dX0_forget_55 (lv_at hl 0 rfl) ?_
          obtain ⟨k_6, hk_6⟩ := va_pl_get (X := (CWx a k N L f1 f2 f3 f4 f5 f6 f7 f8 rd f10 f11 f12 n f14 lf wd ho ro pa (va_up r i (some (rowA r t))))) (f := (CEf E)) (hrow i (by omega)).2
          refine va_astq hx hb hK hP hD hS 7 3 k_6 1 rfl rfl hk_6 rfl (vp_in_nI (by omega) (by omega)) dX0_forget_57 (fun H locs hP hD hS => ?_)
          rw [nI_clamp (show t < 2 ^ 31 by omega)] at hP hD
          have hP : va_P (dC, dI) vwCl (CWl a k LP N L f1 f2 f3 f4 f5 f6 f7 f8 rd f10 f11 f12 n f14 lf wd ho ro pa (va_up (va_up r i (some (rowA r t))) t (some (rowA r i))) E) H := hP
          have hD : va_D A (CWl a k LP N L f1 f2 f3 f4 f5 f6 f7 f8 rd f10 f11 f12 n f14 lf wd ho ro pa (va_up (va_up r i (some (rowA r t))) t (some (rowA r i))) E) := hD
          refine lv_iinc (v := nI (t + 1)) (lv' := [(4, .int (nI (t + 1))), (6, .ref (rowA r i)), (5, .int (nI i)), (0, .ref (a 6)), (1, .int p0), (2, .int p1), (3, .int p2)]) hx hb dX0_forget_58 hl (k := 2) rfl (cx_inc t 1 rfl) (by decide) rfl (fun ls hl => ?_)
          refine lv_iinc (v := nI (i + 1)) (lv' := [(5, .int (nI (i + 1))), (4, .int (nI (t + 1))), (6, .ref (rowA r i)), (0, .ref (a 6)), (1, .int p0), (2, .int p1), (3, .int p2)]) hx hb dX0_forget_61 hl (k := 2) rfl (cx_inc i 1 rfl) (by decide) rfl (fun ls hl => ?_)
          refine lv_goto (tgt := 6) hx hb dX0_forget_64 (by decide) ?_
          exact ih (i + 1) (t + 1) _ (by omega) (by omega) (swap_ok hrow (by omega) (by omega)) (by rw [hm, mForL, if_pos c_32_3]) H locs hP hD hS ls (lv_sub hl [0, 1, 3, 4, 5, 6] rfl)
  refine lv_iconst (v := 0) hx hb dX0_forget_0 (by decide) ?_
  refine lv_istore (lv' := [(4, .int (0 : Int32)), (0, .ref (a 6)), (1, .int p0), (2, .int p1), (3, .int p2)]) hx hb dX0_forget_1 hl (by decide) rfl (fun ls hl => ?_)
  refine lv_iconst (v := 0) hx hb dX0_forget_3 (by decide) ?_
  refine lv_istore (lv' := [(5, .int (0 : Int32)), (4, .int (0 : Int32)), (0, .ref (a 6)), (1, .int p0), (2, .int p1), (3, .int p2)]) hx hb dX0_forget_4 hl (by decide) rfl (fun ls hl => ?_)
  exact loop n 0 0 rs (by omega) (by omega) hrow rfl s.heap [] hP hD hS ls (lv_sub hl [0, 1, 2, 3, 4, 5] rfl)
