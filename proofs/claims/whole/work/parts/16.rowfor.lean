/-- Entries.rowFor: the forerunner's row, from row i on, j rows left -/
def mRowL (rs : Nat → Option Nat) (E : Nat → Nat → Int32) (p0 p1 p2 : Int32) : Nat → Nat → Option Nat
  | 0, _ => none
  | j + 1, i => if E 1 (rowA rs i) = p2 then (if mX1_standsFor E (rowA rs i) p0 p1 = 0 then mRowL rs E p0 p1 p2 j (i + 1) else some i) else mRowL rs E p0 p1 p2 j (i + 1)
/-- the row, the entries kept behind it, those that went -/
def mRow (N n : Nat) (f14 : Int32) : Option Nat → Nat × Nat × Int32
  | some i => (i, n, f14)
  | none => if N ≤ n then (n - 1, n, f14 + (1 : Int32)) else (n, n + 1, f14)
theorem mRowL_lt (rs : Nat → Option Nat) (E : Nat → Nat → Int32) (p0 p1 p2 : Int32) : ∀ (j i x : Nat), mRowL rs E p0 p1 p2 j i = some x → x < i + j
  | 0, i, x, h => by cases h
  | j + 1, i, x, h => by
    unfold mRowL at h
    have ih := mRowL_lt rs E p0 p1 p2 j (i + 1) x
    split at h
    · split at h
      · have := ih h; omega
      · cases h; omega
    · have := ih h; omega
theorem mRow_lt {N n x n' : Nat} {f14 f' : Int32} {o : Option Nat} (h : (x, n', f') = mRow N n f14 o) (ho : ∀ i, o = some i → i < n) (hn : n ≤ N) (h0 : 0 < N) : x < N ∧ n' ≤ N ∧ x < n' := by
  cases o with
  | some i =>
    have := ho i rfl
    cases h
    omega
  | none =>
    have h' : (x, n', f') = if N ≤ n then (n - 1, n, f14 + (1 : Int32)) else (n, n + 1, f14) := h
    by_cases hc : N ≤ n
    · rw [if_pos hc] at h'
      cases h'
      omega
    · rw [if_neg hc] at h'
      cases h'
      omega

set_option maxHeartbeats 4000000 in
set_option maxRecDepth 100000 in
theorem c_X0_rowFor (l : Launch) (dC : Nat → ClassId) (dI : Nat → Nat → Nat) (a : Nat → Nat) (k : Nat → ClassId) (LP : List Nat) (N : Nat) (L : Nat) (f1 f2 f3 f4 f5 f6 f7 f8 : Int32) (rd : Nat) (f10 f11 f12 : Int32) (n : Nat) (f14 : Int32) (lf : Int64) (wd : Nat → Int64) (ho ro pa : Nat → Int32) (rs : Nat → Option Nat) (E : Nat → Nat → Int32)  (sz : Nat) (p0 : Int32) (p1 : Int32) (p2 : Int32) (hn : n ≤ N) (h0N : 0 < N) (hN32 : N ≤ 32) (hrow : ∀ i, i < N → rs i = some (rowA rs i) ∧ rowA rs i ∈ LP) : Met l yX0_rowFor (wX0_rowFor :: AW) ({ frames := 2, cells := 0, slots := 0, locals := 42 }) (va_Pc [.ref (a 6), .int p0, .int p1, .int p2] (CPrQ dC dI (CWl a k LP N L f1 f2 f3 f4 f5 f6 f7 f8 rd f10 f11 f12 n f14 lf wd ho ro pa rs E) [(k 0, .long), (k 1, .int), (k 2, .int), (k 3, .object "PageRows$Entry"), (k 4, .int)] sz)) (va_Qi (fun (r : Int32) (u : Nat × Int32) => ∃ x : Nat, r = nI x ∧ (x, u) = mRow N n f14 (mRowL rs E p0 p1 p2 n 0)) (fun (u : Nat × Int32) (t : State) => match u with | (n', f14') => va_P (dC, dI) vwCl (CWl a k LP N L f1 f2 f3 f4 f5 f6 f7 f8 rd f10 f11 f12 n' f14' lf wd ho ro pa rs E) t.heap ∧ va_K (dC, dI) vwCl [(k 0, .long), (k 1, .int), (k 2, .int), (k 3, .object "PageRows$Entry"), (k 4, .int)] t ∧ va_D (va_A (CWl a k LP N L f1 f2 f3 f4 f5 f6 f7 f8 rd f10 f11 f12 n f14 lf wd ho ro pa rs E) sz) (CWl a k LP N L f1 f2 f3 f4 f5 f6 f7 f8 rd f10 f11 f12 n' f14' lf wd ho ro pa rs E)) (va_A (CWl a k LP N L f1 f2 f3 f4 f5 f6 f7 f8 rd f10 f11 f12 n f14 lf wd ho ro pa rs E) sz)) 0 0 (va_A (CWl a k LP N L f1 f2 f3 f4 f5 f6 f7 f8 rd f10 f11 f12 n f14 lf wd ho ro pa rs E) sz) := by
  refine cx_of (cc := cX0_rowFor) (maxL := 5) (ret := some .int) (by decide) rfl (Nat.le_of_ble_eq_true rfl) ?_
  intro p e s m below meth c ls hx hb hr hts hown hlocks hml hnm hl hB
  have hta : ∀ w ∈ AW, w.before [.ref (a 6), .int p0, .int p1, .int p2].toArray s = true := fun w h => hts w (List.mem_cons_of_mem _ h)
  have hl : lv_has ls 5 [(0, .ref (a 6)), (1, .int p0), (2, .int p1), (3, .int p2)] := hl
  have hown : s.vm.findClass RX0 = some m.cls := hown
  obtain ⟨rfl, ⟨hP, hK, hN⟩, hD0⟩ := hB
  have hD := hD0.self (sz := s.heap.size)
  generalize hAe : va_A (CWl a k LP N L f1 f2 f3 f4 f5 f6 f7 f8 rd f10 f11 f12 n f14 lf wd ho ro pa rs E) s.heap.size = A at hD ⊢
  have hA : ∀ q : Nat, s.heap.size ≤ q → A q := fun q h => by rw [← hAe]; exact Or.inr h
  have hS : va_S A s.heap s.heap [] := va_S.rf
  have loop : ∀ (j i : Nat), i + j = n → mRowL rs E p0 p1 p2 n 0 = mRowL rs E p0 p1 p2 j i → ∀ (ls : Array Slot), lv_has ls 5 [(4, .int (nI i)), (0, .ref (a 6)), (1, .int p0), (2, .int p1), (3, .int p2)] → W p l e ({ frames := 2, cells := 0, slots := 0, locals := 42 }) s m [.ref (a 6), .int p0, .int p1, .int p2].toArray below meth c s.heap [] 0 0 (MQ below (va_Qi (fun (r : Int32) (u : Nat × Int32) => ∃ x : Nat, r = nI x ∧ (x, u) = mRow N n f14 (mRowL rs E p0 p1 p2 n 0)) (fun (u : Nat × Int32) (t : State) => match u with | (n', f14') => va_P (dC, dI) vwCl (CWl a k LP N L f1 f2 f3 f4 f5 f6 f7 f8 rd f10 f11 f12 n' f14' lf wd ho ro pa rs E) t.heap ∧ va_K (dC, dI) vwCl [(k 0, .long), (k 1, .int), (k 2, .int), (k 3, .object "PageRows$Entry"), (k 4, .int)] t ∧ va_D A (CWl a k LP N L f1 f2 f3 f4 f5 f6 f7 f8 rd f10 f11 f12 n' f14' lf wd ho ro pa rs E)) A) [.ref (a 6), .int p0, .int p1, .int p2].toArray s 0 0 A) (F0 m 3 ls []) := by
    intro j
    induction j with
    | zero =>
      intro i hi hm ls hl
      refine lv_iload hx hb dX0_rowFor_3 (lv_at hl 0 rfl) ?_
      refine lv_aload_n hx hb dX0_rowFor_5 rfl (lv_at hl 1 rfl) ?_
      refine va_get (D := (dC, dI)) (ci := 0) (v := .int (nI n)) (C := RX0) (T := TX0) (N := 3) hx hb hta inA_X0 hown hK hP 6 rfl rfl 1 (by decide) (hta _ aw_161) (fun _ h9 => h9) rfl dX0_rowFor_6 ?_
      refine lv_icmp_ge (tgt := 50) hx hb dX0_rowFor_9 (by decide) (fun c_9_0 => ?_) (fun c_9_0 => ?_)
      · refine lv_aload_n hx hb dX0_rowFor_50 rfl (lv_at hl 1 rfl) ?_
        refine va_get (D := (dC, dI)) (ci := 0) (v := .int (nI n)) (C := RX0) (T := TX0) (N := 3) hx hb hta inA_X0 hown hK hP 6 rfl rfl 1 (by decide) (hta _ aw_161) (fun _ h9 => h9) rfl dX0_rowFor_51 ?_
        refine lv_aload_n hx hb dX0_rowFor_54 rfl (lv_at hl 1 rfl) ?_
        refine va_get (D := (dC, dI)) (ci := 0) (v := .ref (a 7)) (C := RX0) (T := TX0) (N := 3) hx hb hta inA_X0 hown hK hP 6 rfl rfl 0 (by decide) (hta _ aw_159) (fun _ h9 => h9) rfl dX0_rowFor_55 ?_
        refine va_alen (v := nI N) hx hb hK hP 7 3 rfl rfl rfl dX0_rowFor_58 ?_
        refine lv_icmp_ge (tgt := 75) hx hb dX0_rowFor_59 (by decide) (fun c_59_1 => ?_) (fun c_59_1 => ?_)
        · have hNn : N ≤ n := by rw [nI_leI (by omega) (by omega)] at c_59_1; exact c_59_1
          refine lv_aload_n hx hb dX0_rowFor_75 rfl (lv_at hl 1 rfl) ?_
          refine lv_dup hx hb dX0_rowFor_76 rfl ?_
          refine va_get (D := (dC, dI)) (ci := 0) (v := .int f14) (C := RX0) (T := TX0) (N := 3) hx hb hta inA_X0 hown hK hP 6 rfl rfl 2 (by decide) (hta _ aw_163) (fun _ h9 => h9) rfl dX0_rowFor_77 ?_
          refine lv_iconst (v := 1) hx hb dX0_rowFor_80 (by decide) ?_
          refine lv_iadd hx hb dX0_rowFor_81 ?_
          refine va_put (D := (dC, dI)) (ci := 0) (v := .int (f14 + (1 : Int32))) (ty := .int) (C := RX0) (T := TX0) (N := 3) hx hb hta inA_X0 tyX0 tyX0_ok nmX0 hown hK hP hD hS 6 rfl rfl 2 (by decide) (hta _ aw_163) (fun _ h9 => h9) rfl (by decide +kernel) rfl rfl (Nat.le_of_ble_eq_true rfl) dX0_rowFor_82 (fun H locs hP hD hS => ?_)
          have hP : va_P (dC, dI) vwCl (CWl a k LP N L f1 f2 f3 f4 f5 f6 f7 f8 rd f10 f11 f12 n (f14 + (1 : Int32)) lf wd ho ro pa rs E) H := hP
          have hD : va_D A (CWl a k LP N L f1 f2 f3 f4 f5 f6 f7 f8 rd f10 f11 f12 n (f14 + (1 : Int32)) lf wd ho ro pa rs E) := hD
          refine lv_aload_n hx hb dX0_rowFor_85 rfl (lv_at hl 1 rfl) ?_
          refine va_get (D := (dC, dI)) (ci := 0) (v := .int (nI n)) (C := RX0) (T := TX0) (N := 3) hx hb hta inA_X0 hown hK hP 6 rfl rfl 1 (by decide) (hta _ aw_161) (fun _ h9 => h9) rfl dX0_rowFor_86 ?_
          refine lv_iconst (v := 1) hx hb dX0_rowFor_89 (by decide) ?_
          refine lv_isub hx hb dX0_rowFor_90 ?_
          rw [show (nI n) - (1 : Int32) = nI (n - 1) from pk_sub (show 1 ≤ n by omega)]
          exact W.iret (v := nI (n - 1)) hx hb hr (fun t ht hW => ⟨⟨nI (n - 1), (n, f14 + (1 : Int32)), rfl, ⟨(n - 1), rfl, (by rw [hm]; show _ = mRow N n f14 none; unfold mRow; rw [if_pos (show N ≤ n from by rw [nI_leI (by omega) (by omega)] at c_59_1; exact c_59_1)])⟩, by rw [ht]; exact hP, va_K.moved hW.alike hK, hD⟩, hS.F ht⟩) hS.2.2 dX0_rowFor_91
        · refine lv_aload_n hx hb dX0_rowFor_62 rfl (lv_at hl 1 rfl) ?_
          refine lv_dup hx hb dX0_rowFor_63 rfl ?_
          refine va_get (D := (dC, dI)) (ci := 0) (v := .int (nI n)) (C := RX0) (T := TX0) (N := 3) hx hb hta inA_X0 hown hK hP 6 rfl rfl 1 (by decide) (hta _ aw_161) (fun _ h9 => h9) rfl dX0_rowFor_64 ?_
          refine lv_iconst (v := 1) hx hb dX0_rowFor_67 (by decide) ?_
          refine lv_iadd hx hb dX0_rowFor_68 ?_
          rw [show (nI n) + (1 : Int32) = nI (n + 1) from nI_add n 1]
          refine va_put (D := (dC, dI)) (ci := 0) (v := .int (nI (n + 1))) (ty := .int) (C := RX0) (T := TX0) (N := 3) hx hb hta inA_X0 tyX0 tyX0_ok nmX0 hown hK hP hD hS 6 rfl rfl 1 (by decide) (hta _ aw_161) (fun _ h9 => h9) rfl (by decide +kernel) rfl rfl (Nat.le_of_ble_eq_true rfl) dX0_rowFor_69 (fun H locs hP hD hS => ?_)
          have hP : va_P (dC, dI) vwCl (CWl a k LP N L f1 f2 f3 f4 f5 f6 f7 f8 rd f10 f11 f12 (n + 1) f14 lf wd ho ro pa rs E) H := hP
          have hD : va_D A (CWl a k LP N L f1 f2 f3 f4 f5 f6 f7 f8 rd f10 f11 f12 (n + 1) f14 lf wd ho ro pa rs E) := hD
          refine lv_goto (tgt := 85) hx hb dX0_rowFor_72 (by decide) ?_
          refine lv_aload_n hx hb dX0_rowFor_85 rfl (lv_at hl 1 rfl) ?_
          refine va_get (D := (dC, dI)) (ci := 0) (v := .int (nI (n + 1))) (C := RX0) (T := TX0) (N := 3) hx hb hta inA_X0 hown hK hP 6 rfl rfl 1 (by decide) (hta _ aw_161) (fun _ h9 => h9) rfl dX0_rowFor_86 ?_
          refine lv_iconst (v := 1) hx hb dX0_rowFor_89 (by decide) ?_
          refine lv_isub hx hb dX0_rowFor_90 ?_
          rw [show (nI (n + 1)) - (1 : Int32) = nI n from nI_pred n]
          exact W.iret (v := nI n) hx hb hr (fun t ht hW => ⟨⟨nI n, ((n + 1), f14), rfl, ⟨n, rfl, (by rw [hm]; show _ = mRow N n f14 none; unfold mRow; rw [if_neg (show ¬ N ≤ n from by rw [nI_leI (by omega) (by omega)] at c_59_1; exact c_59_1)])⟩, by rw [ht]; exact hP, va_K.moved hW.alike hK, hD⟩, hS.F ht⟩) hS.2.2 dX0_rowFor_91
      · exact absurd (nI_le (by omega) (by omega)) c_9_0
    | succ j ih =>
      intro i hi hm ls hl
      refine lv_iload hx hb dX0_rowFor_3 (lv_at hl 0 rfl) ?_
      refine lv_aload_n hx hb dX0_rowFor_5 rfl (lv_at hl 1 rfl) ?_
      refine va_get (D := (dC, dI)) (ci := 0) (v := .int (nI n)) (C := RX0) (T := TX0) (N := 3) hx hb hta inA_X0 hown hK hP 6 rfl rfl 1 (by decide) (hta _ aw_161) (fun _ h9 => h9) rfl dX0_rowFor_6 ?_
      refine lv_icmp_ge (tgt := 50) hx hb dX0_rowFor_9 (by decide) (fun c_9_2 => ?_) (fun c_9_2 => ?_)
      · exact absurd c_9_2 (nI_ge (by omega) (by omega))
      · refine lv_aload_n hx hb dX0_rowFor_12 rfl (lv_at hl 1 rfl) ?_
        refine va_get (D := (dC, dI)) (ci := 0) (v := .ref (a 7)) (C := RX0) (T := TX0) (N := 3) hx hb hta inA_X0 hown hK hP 6 rfl rfl 0 (by decide) (hta _ aw_159) (fun _ h9 => h9) rfl dX0_rowFor_13 ?_
        refine lv_iload hx hb dX0_rowFor_16 (lv_at hl 0 rfl) ?_
        refine cx_aald hx hb hK hP 7 3 rfl rfl (vp_in_nI (by omega) (by omega)) (by rw [nI_clamp (by omega)]; exact (hrow i (by omega)).1) dX0_rowFor_18 ?_
        obtain ⟨k_4, hk_4⟩ := va_pl_get (X := (CWx a k N L f1 f2 f3 f4 f5 f6 f7 f8 rd f10 f11 f12 n f14 lf wd ho ro pa rs)) (f := (CEf E)) (hrow i (by omega)).2
        refine va_getN (D := (dC, dI)) (ci := 1) (v := .int (E 1 (rowA rs i))) (C := RX1) (T := TX1) (N := 6) hx hb hta inA_X1 hown hK hP k_4 hk_4 rfl 1 (by decide) (hN.nf 11 rfl) (fun _ h9 => h9) rfl dX0_rowFor_19 ?_
        refine lv_iload_n hx hb dX0_rowFor_22 rfl (lv_at hl 4 rfl) ?_
        refine lv_icmp_ne (tgt := 44) hx hb dX0_rowFor_23 (by decide) (fun c_23_4 => ?_) (fun c_23_4 => ?_)
        · refine lv_iinc (v := nI (i + 1)) (lv' := [(4, .int (nI (i + 1))), (0, .ref (a 6)), (1, .int p0), (2, .int p1), (3, .int p2)]) hx hb dX0_rowFor_44 hl (k := 0) rfl (cx_inc i 1 rfl) (by decide) rfl (fun ls hl => ?_)
          refine lv_goto (tgt := 3) hx hb dX0_rowFor_47 (by decide) ?_
          exact ih (i + 1) (by omega) (by rw [hm, mRowL, if_neg c_23_4]) ls (lv_sub hl [0, 1, 2, 3, 4] rfl)
        · refine lv_aload_n hx hb dX0_rowFor_26 rfl (lv_at hl 1 rfl) ?_
          refine va_get (D := (dC, dI)) (ci := 0) (v := .ref (a 7)) (C := RX0) (T := TX0) (N := 3) hx hb hta inA_X0 hown hK hP 6 rfl rfl 0 (by decide) (hta _ aw_159) (fun _ h9 => h9) rfl dX0_rowFor_27 ?_
          refine lv_iload hx hb dX0_rowFor_30 (lv_at hl 0 rfl) ?_
          refine cx_aald hx hb hK hP 7 3 rfl rfl (vp_in_nI (by omega) (by omega)) (by rw [nI_clamp (by omega)]; exact (hrow i (by omega)).1) dX0_rowFor_32 ?_
          refine lv_iload_n hx hb dX0_rowFor_33 rfl (lv_at hl 2 rfl) ?_
          refine lv_iload_n hx hb dX0_rowFor_34 rfl (lv_at hl 3 rfl) ?_
          refine cx_callSi (va_runVN (As := [.int p0, .int p1]) (rest := []) ⟨hx, hb, hml, hown, hta⟩ (c_X1_standsFor l dC dI a k LP N L f1 f2 f3 f4 f5 f6 f7 f8 rd f10 f11 f12 n f14 lf wd ho ro pa rs E (rowA rs i) ((hrow i (by omega)).2) p0 p1) ⟨va_cnB 2 hta (gC aw_369) rfl rfl rfl (hN.nm 5 rfl) (hta _ aw_42) (by decide +kernel) ⟨Nat.le_of_ble_eq_true rfl, Nat.le_of_ble_eq_true rfl⟩, (hta _ aw_368), (hta _ aw_2)⟩ (cx_preVS hK hP hN (cx_recvP (ci := 1) hK hP (hrow i (by omega)).2 rfl rfl)) rfl rfl hl.1 rfl (lv_room (Nat.le_of_ble_eq_true rfl)) dX0_rowFor_35 ⟨Nat.le_of_ble_eq_true rfl, Nat.le_of_ble_eq_true rfl⟩) (fun r hw_6 => ?_)
          subst hw_6
          refine lv_if_eq (tgt := 44) hx hb dX0_rowFor_38 (by decide) (fun c_38_6 => ?_) (fun c_38_6 => ?_)
          · refine lv_iinc (v := nI (i + 1)) (lv' := [(4, .int (nI (i + 1))), (0, .ref (a 6)), (1, .int p0), (2, .int p1), (3, .int p2)]) hx hb dX0_rowFor_44 hl (k := 0) rfl (cx_inc i 1 rfl) (by decide) rfl (fun ls hl => ?_)
            refine lv_goto (tgt := 3) hx hb dX0_rowFor_47 (by decide) ?_
            exact ih (i + 1) (by omega) (by rw [hm, mRowL, if_pos c_23_4, if_pos c_38_6]) ls (lv_sub hl [0, 1, 2, 3, 4] rfl)
          · refine lv_iload hx hb dX0_rowFor_41 (lv_at hl 0 rfl) ?_
            exact W.iret (v := nI i) hx hb hr (fun t ht hW => ⟨⟨nI i, (n, f14), rfl, ⟨i, rfl, (by rw [hm, mRowL, if_pos c_23_4, if_neg c_38_6]; rfl)⟩, by rw [ht]; exact hP, va_K.moved hW.alike hK, hD⟩, hS.F ht⟩) hS.2.2 dX0_rowFor_43
  refine lv_iconst (v := 0) hx hb dX0_rowFor_0 (by decide) ?_
  refine lv_istore (lv' := [(4, .int (0 : Int32)), (0, .ref (a 6)), (1, .int p0), (2, .int p1), (3, .int p2)]) hx hb dX0_rowFor_1 hl (by decide) rfl (fun ls hl => ?_)
  exact loop n 0 (by omega) rfl ls (lv_sub hl [0, 1, 2, 3, 4] rfl)
