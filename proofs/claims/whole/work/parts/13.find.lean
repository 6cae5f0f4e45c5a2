def rowA (rs : Nat → Option Nat) (i : Nat) : Nat := (rs i).getD 0
/-- Entries.find: from row i on, j rows left -/
def mFind (rs : Nat → Option Nat) (E : Nat → Nat → Int32) (p0 p1 : Int32) : Nat → Nat → Option Nat
  | 0, _ => none
  | j + 1, i => if mX1_standsFor E (rowA rs i) p0 p1 = 0 then mFind rs E p0 p1 j (i + 1) else some i
def optI : Option Nat → Int32
  | none => (-1 : Int32)
  | some j => nI j
theorem mFind_lt (rs : Nat → Option Nat) (E : Nat → Nat → Int32) (p0 p1 : Int32) : ∀ (j i x : Nat), mFind rs E p0 p1 j i = some x → x < i + j
  | 0, i, x, h => by cases h
  | j + 1, i, x, h => by
    unfold mFind at h
    have ih := mFind_lt rs E p0 p1 j (i + 1) x
    split at h
    · have := ih h; omega
    · cases h; omega

set_option maxHeartbeats 4000000 in
set_option maxRecDepth 100000 in
theorem c_X0_find (l : Launch) (dC : Nat → ClassId) (dI : Nat → Nat → Nat) (a : Nat → Nat) (k : Nat → ClassId) (LP : List Nat) (N : Nat) (L : Nat) (f1 f2 f3 f4 f5 f6 f7 f8 : Int32) (rd : Nat) (f10 f11 f12 : Int32) (n : Nat) (f14 : Int32) (lf : Int64) (wd : Nat → Int64) (ho ro pa : Nat → Int32) (rs : Nat → Option Nat) (E : Nat → Nat → Int32)  (p0 : Int32) (p1 : Int32) (hn : n ≤ N) (hN32 : N ≤ 32) (hrow : ∀ i, i < N → rs i = some (rowA rs i) ∧ rowA rs i ∈ LP) : Met l yX0_find (wX0_find :: AW) ({ frames := 2, cells := 0, slots := 0, locals := 42 }) (va_Pc [.ref (a 6), .int p0, .int p1] (CPre dC dI (CWl a k LP N L f1 f2 f3 f4 f5 f6 f7 f8 rd f10 f11 f12 n f14 lf wd ho ro pa rs E) [(k 0, .long), (k 1, .int), (k 2, .int), (k 3, .object "PageRows$Entry"), (k 4, .int)])) (vp_Si (fun r => r = optI (mFind rs E p0 p1 n 0))) 0 0 (fun _ => False) := by
  refine cx_of (cc := cX0_find) (maxL := 4) (ret := some .int) (by decide) rfl (Nat.le_of_ble_eq_true rfl) ?_
  intro p e s m below meth c ls hx hb hr hts hown hlocks hml hnm hl hB
  have hta : ∀ w ∈ AW, w.before [.ref (a 6), .int p0, .int p1].toArray s = true := fun w h => hts w (List.mem_cons_of_mem _ h)
  have hl : lv_has ls 4 [(0, .ref (a 6)), (1, .int p0), (2, .int p1)] := hl
  have hown : s.vm.findClass RX0 = some m.cls := hown
  obtain ⟨hP, hK, hN⟩ := hB
  have loop : ∀ (j i : Nat), i + j = n → mFind rs E p0 p1 n 0 = mFind rs E p0 p1 j i → ∀ (ls : Array Slot), lv_has ls 4 [(3, .int (nI i)), (0, .ref (a 6)), (1, .int p0), (2, .int p1)] → W p l e ({ frames := 2, cells := 0, slots := 0, locals := 42 }) s m [.ref (a 6), .int p0, .int p1].toArray below meth c s.heap [] 0 0 (MQ below (vp_Si (fun r => r = optI (mFind rs E p0 p1 n 0))) [.ref (a 6), .int p0, .int p1].toArray s 0 0 (fun _ => False)) (F0 m 2 ls []) := by
    intro j
    induction j with
    | zero =>
      intro i hi hm ls hl
      refine lv_iload_n hx hb dX0_find_2 rfl (lv_at hl 0 rfl) ?_
      refine lv_aload_n hx hb dX0_find_3 rfl (lv_at hl 1 rfl) ?_
      refine va_get (D := (dC, dI)) (ci := 0) (v := .int (nI n)) (C := RX0) (T := TX0) (N := 3) hx hb hta inA_X0 hown hK hP 6 rfl rfl 1 (by decide) (hta _ aw_161) (fun _ h9 => h9) rfl dX0_find_4 ?_
      refine lv_icmp_ge (tgt := 32) hx hb dX0_find_7 (by decide) (fun c_7_0 => ?_) (fun c_7_0 => ?_)
      · refine lv_iconst (v := (-1)) hx hb dX0_find_32 (by decide) ?_
        exact W.iret (v := (-1 : Int32)) hx hb hr (fun t ht hW => ⟨(-1 : Int32), rfl, (by rw [hm]; rfl), ht⟩) (fun q h => nomatch h) dX0_find_33
      · exact absurd (nI_le (by omega) (by omega)) c_7_0
    | succ j ih =>
      intro i hi hm ls hl
      refine lv_iload_n hx hb dX0_find_2 rfl (lv_at hl 0 rfl) ?_
      refine lv_aload_n hx hb dX0_find_3 rfl (lv_at hl 1 rfl) ?_
      refine va_get (D := (dC, dI)) (ci := 0) (v := .int (nI n)) (C := RX0) (T := TX0) (N := 3) hx hb hta inA_X0 hown hK hP 6 rfl rfl 1 (by decide) (hta _ aw_161) (fun _ h9 => h9) rfl dX0_find_4 ?_
      refine lv_icmp_ge (tgt := 32) hx hb dX0_find_7 (by decide) (fun c_7_1 => ?_) (fun c_7_1 => ?_)
      · exact absurd c_7_1 (nI_ge (by omega) (by omega))
      · refine lv_aload_n hx hb dX0_find_10 rfl (lv_at hl 1 rfl) ?_
        refine va_get (D := (dC, dI)) (ci := 0) (v := .ref (a 7)) (C := RX0) (T := TX0) (N := 3) hx hb hta inA_X0 hown hK hP 6 rfl rfl 0 (by decide) (hta _ aw_159) (fun _ h9 => h9) rfl dX0_find_11 ?_
        refine lv_iload_n hx hb dX0_find_14 rfl (lv_at hl 0 rfl) ?_
        refine cx_aald hx hb hK hP 7 3 rfl rfl (vp_in_nI (by omega) (by omega)) (by rw [nI_clamp (by omega)]; exact (hrow i (by omega)).1) dX0_find_15 ?_
        refine lv_iload_n hx hb dX0_find_16 rfl (lv_at hl 2 rfl) ?_
        refine lv_iload_n hx hb dX0_find_17 rfl (lv_at hl 3 rfl) ?_
        refine cx_callSi (va_runVN (As := [.int p0, .int p1]) (rest := []) ⟨hx, hb, hml, hown, hta⟩ (c_X1_standsFor l dC dI a k LP N L f1 f2 f3 f4 f5 f6 f7 f8 rd f10 f11 f12 n f14 lf wd ho ro pa rs E (rowA rs i) ((hrow i (by omega)).2) p0 p1) ⟨va_cnB 2 hta (gC aw_369) rfl rfl rfl (hN.nm 5 rfl) (hta _ aw_42) (by decide +kernel) ⟨Nat.le_of_ble_eq_true rfl, Nat.le_of_ble_eq_true rfl⟩, (hta _ aw_368), (hta _ aw_2)⟩ (cx_preVS hK hP hN (cx_recvP (ci := 1) hK hP (hrow i (by omega)).2 rfl rfl)) rfl rfl hl.1 rfl (lv_room (Nat.le_of_ble_eq_true rfl)) dX0_find_18 ⟨Nat.le_of_ble_eq_true rfl, Nat.le_of_ble_eq_true rfl⟩) (fun r hw_3 => ?_)
        subst hw_3
        refine lv_if_eq (tgt := 26) hx hb dX0_find_21 (by decide) (fun c_21_3 => ?_) (fun c_21_3 => ?_)
        · refine lv_iinc (v := nI (i + 1)) (lv' := [(3, .int (nI (i + 1))), (0, .ref (a 6)), (1, .int p0), (2, .int p1)]) hx hb dX0_find_26 hl (k := 0) rfl (cx_inc i 1 rfl) (by decide) rfl (fun ls hl => ?_)
          refine lv_goto (tgt := 2) hx hb dX0_find_29 (by decide) ?_
          exact ih (i + 1) (by omega) (by rw [hm, mFind, if_pos c_21_3]) ls (lv_sub hl [0, 1, 2, 3] rfl)
        · refine lv_iload_n hx hb dX0_find_24 rfl (lv_at hl 0 rfl) ?_
          exact W.iret (v := nI i) hx hb hr (fun t ht hW => ⟨nI i, rfl, (by rw [hm, mFind, if_neg c_21_3]; rfl), ht⟩) (fun q h => nomatch h) dX0_find_25
  refine lv_iconst (v := 0) hx hb dX0_find_0 (by decide) ?_
  refine lv_istore_n (lv' := [(3, .int (0 : Int32)), (0, .ref (a 6)), (1, .int p0), (2, .int p1)]) hx hb dX0_find_1 rfl hl (by decide) rfl (fun ls hl => ?_)
  exact loop n 0 (by omega) rfl ls (lv_sub hl [0, 1, 2, 3] rfl)
