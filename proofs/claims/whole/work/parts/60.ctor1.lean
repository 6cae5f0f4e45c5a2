section CXV
variable {p : Program} {l : Launch} {e : Env} {R : Room} {s : State} {m : MethodId} {args : Array Value} {below : List Frame} {meth : Method} {c : Code} {H : Heap} {locs : List Loc} {cells slots : Nat} {Q : State → Prop} {pc : Nat} {ls : Array Slot} {rest st0 : List Value} {a : Array Value}
theorem cx_callSv {post : Unit → Prop} (hr : va_Run p l e R s m args below meth c H locs cells slots 0 0 (F0 m pc ls st0) rest (va_Sv post a) (fun _ => False))
    (kk : W p l e R s m args below meth c H locs cells slots Q (F0 m (pc + 3) ls rest)) : W p l e R s m args below meth c H locs cells slots Q (F0 m pc ls st0) := by
  intro T hT X
  obtain ⟨v, st₀, t, T', L, h0, X', hL, e1, -, ⟨hv, hp, hh⟩, st⟩ := hr T hT X
  cases hv
  obtain ⟨t2, a1, b1⟩ := kk T' (by rw [e1, hh, h0]) (Stand.forget X' (fun q h => (hL q h).elim))
  exact ⟨t2, st t2 a1, b1⟩
end CXV
def cL (x : Int32) : Nat := 1 + ((x - (1 : Int32)).toBitVec.toNat % 2 ^ 2)
def hoF (i : Nat) : Nat → Int32 := fun q => if q < i then (-1 : Int32) else 0
def roF (i : Nat) : Nat → Int32 := fun q => if q < i then nI q else 0
theorem hoF_0 : (fun _ => 0 : Nat → Int32) = hoF 0 := by
  funext q
  exact (if_neg (by omega)).symm
theorem roF_0 : (fun _ => 0 : Nat → Int32) = roF 0 := by
  funext q
  exact (if_neg (by omega)).symm
theorem hoF_step (i : Nat) : upd (hoF i) i (-1 : Int32) = hoF (i + 1) := by
  funext q
  by_cases e : q = i
  · subst e
    rw [pk_us]
    exact (if_pos (by omega)).symm
  · rw [pk_un e]
    unfold hoF
    by_cases h : q < i
    · rw [if_pos h, if_pos (by omega)]
    · rw [if_neg h, if_neg (by omega)]
theorem roF_step (i : Nat) : upd (roF i) i (nI i) = roF (i + 1) := by
  funext q
  by_cases e : q = i
  · subst e
    rw [pk_us]
    exact (if_pos (by omega)).symm
  · rw [pk_un e]
    unfold roF
    by_cases h : q < i
    · rw [if_pos h, if_pos (by omega)]
    · rw [if_neg h, if_neg (by omega)]
theorem roF_4 : upd (upd (upd (upd (fun _ => 0) 0 (0 : Int32)) 1 (1 : Int32)) 2 (2 : Int32)) 3 (3 : Int32) = roF 4 := by
  rw [roF_0]
  rw [show upd (roF 0) 0 (0 : Int32) = roF 1 from roF_step 0, show upd (roF 1) 1 (1 : Int32) = roF 2 from roF_step 1, show upd (roF 2) 2 (2 : Int32) = roF 3 from roF_step 2]
  exact roF_step 3
def cN (x : Int32) : Nat := 1 + ((x - (1 : Int32)).toBitVec.toNat % 2 ^ 5)
theorem cL_eq (x : Int32) : (1 : Int32) + ((x - (1 : Int32)) &&& (3 : Int32)) = nI (cL x) := by
  rw [pk_and _ (m := (3 : Int32)) 2 (by decide)]
  exact nI_add 1 _
theorem cN_eq (x : Int32) : (1 : Int32) + ((x - (1 : Int32)) &&& (31 : Int32)) = nI (cN x) := by
  rw [pk_and _ (m := (31 : Int32)) 5 (by decide)]
  exact nI_add 1 _
theorem cL_in (x : Int32) : 1 ≤ cL x ∧ cL x ≤ 4 := by
  unfold cL
  have := Nat.mod_lt (x - (1 : Int32)).toBitVec.toNat (show 0 < 2 ^ 2 by decide)
  omega
theorem cN_in (x : Int32) : 1 ≤ cN x ∧ cN x ≤ 32 := by
  unfold cN
  have := Nat.mod_lt (x - (1 : Int32)).toBitVec.toNat (show 0 < 2 ^ 5 by decide)
  omega
set_option maxHeartbeats 4000000 in
set_option maxRecDepth 100000 in
theorem c_X1_init (l : Launch) (y0 : Nat) : Met l yX1_init (wX1_init :: AW) ({ frames := 1, cells := 0, slots := 0, locals := 12 }) (va_Pc [.ref y0] (fun _ => True)) (va_Sv (fun _ => True)) 0 0 (fun _ => False) := by
  refine cx_of (cc := cX1_init) (maxL := 1) (ret := none) (by decide) rfl (Nat.le_of_ble_eq_true rfl) ?_
  intro p e s m below meth c ls hx hb hr hts hown hlocks hml hnm hl hB
  have hta : ∀ w ∈ AW, w.before [.ref y0].toArray s = true := fun w h => hts w (List.mem_cons_of_mem _ h)
  have hl : lv_has ls 1 [(0, .ref y0)] := hl
  have hown : s.vm.findClass RX1 = some m.cls := hown
  refine lv_aload_n hx hb dX1_init_0 rfl (lv_at hl 0 rfl) ?_
  refine W.objInit hx hb hown (hta _ aw_127) (hta _ aw_55) (hta _ aw_56) rfl (by rw [hml]; exact hl.1) rfl dX1_init_1 (Nat.le_of_ble_eq_true rfl) (Nat.le_of_ble_eq_true rfl) ?_
  refine W.eq (g2 := F0 m 4 ls []) rfl ?_
  exact W.vret hx hb hr (fun t ht hW => ⟨rfl, trivial, ht⟩) (fun q h => nomatch h) dX1_init_4
set_option maxHeartbeats 4000000 in
set_option maxRecDepth 100000 in
theorem c_X2_init (l : Launch) (dC : Nat → ClassId) (dI : Nat → Nat → Nat) (h0 sz : Nat)   : Met l yX2_init (wX2_init :: AW) ({ frames := 1, cells := 2, slots := 4352, locals := 12 }) (va_Pc [.ref h0] (CPrQ dC dI [(h0, .inr (2, [.null, .null, .int 0]))] [] sz)) (va_Qv (fun (_ : Unit) => True) (fun (_ : Unit) (t : State) => ∃ (q1 q2 : Nat) (c1 c2 : ClassId) (f : Nat → Int32), va_P (dC, dI) vwCl [(h0, .inr (2, [.ref q1, .ref q2, .int 0])), (q1, .inl (c1, 4096, .inr (.inl (fun _ => 0)))), (q2, .inl (c2, 256, .inl f))] t.heap ∧ va_K (dC, dI) vwCl [(c1, .long), (c2, .int)] t ∧ va_D (va_A [(h0, .inr (2, [.null, .null, .int 0]))] sz) [(h0, .inr (2, [.ref q1, .ref q2, .int 0])), (q1, .inl (c1, 4096, .inr (.inl (fun _ => 0)))), (q2, .inl (c2, 256, .inl f))] ∧ f = hoF 256) (va_A [(h0, .inr (2, [.null, .null, .int 0]))] sz)) 2 4352 (va_A [(h0, .inr (2, [.null, .null, .int 0]))] sz) := by
  refine cx_of (cc := cX2_init) (maxL := 2) (ret := none) (by decide) rfl (Nat.le_of_ble_eq_true rfl) ?_
  intro p e s m below meth c ls hx hb hr hts hown hlocks hml hnm hl hB
  have hta : ∀ w ∈ AW, w.before [.ref h0].toArray s = true := fun w h => hts w (List.mem_cons_of_mem _ h)
  have hl : lv_has ls 2 [(0, .ref h0)] := hl
  have hown : s.vm.findClass RX2 = some m.cls := hown
  have hin : meth.name = "<init>" := hnm
  obtain ⟨rfl, ⟨hP, hK, hN⟩, hD0⟩ := hB
  have hD := hD0.self (sz := s.heap.size)
  generalize hAe : va_A [(h0, .inr (2, [.null, .null, .int 0]))] s.heap.size = A at hD ⊢
  have hA : ∀ q : Nat, s.heap.size ≤ q → A q := fun q h => by rw [← hAe]; exact Or.inr h
  have hS : va_S A s.heap s.heap [] := va_S.rf
  refine lv_aload_n hx hb dX2_init_0 rfl (lv_at hl 0 rfl) ?_
  refine W.objInit hx hb hown (hta _ aw_62) (hta _ aw_55) (hta _ aw_56) rfl (by rw [hml]; exact hl.1) rfl dX2_init_1 (Nat.le_of_ble_eq_true rfl) (Nat.le_of_ble_eq_true rfl) ?_
  refine W.eq (g2 := F0 m 4 ls []) rfl ?_
  refine lv_aload_n hx hb dX2_init_4 rfl (lv_at hl 0 rfl) ?_
  refine lv_sipush (v := 4096) hx hb dX2_init_5 (by decide) ?_
  refine va_newa (atype := .long) (N' := 4096) (a0 := (4096, .inr (.inl (fun _ => 0)))) (ty := .long) (n := 4096) hx hb (hta _ aw_77) rfl hK hP hD hS hA (fun _ => rfl) (by decide) (by decide) (by decide) (Nat.le_of_ble_eq_true rfl) (Nat.le_of_ble_eq_true rfl) dX2_init_8 (fun q_1 c_2 H hK hP hD hS => ?_)
  refine W.widen (k := 1) (n := 4096) (Nat.le_of_ble_eq_true rfl) (Nat.le_of_ble_eq_true rfl) ?_
  have hP : va_P (dC, dI) vwCl [(h0, .inr (2, [.null, .null, .int (0 : Int32)])), (q_1, .inl (c_2, 4096, .inr (.inl (fun _ => 0))))] H := hP
  have hD : va_D A [(h0, .inr (2, [.null, .null, .int (0 : Int32)])), (q_1, .inl (c_2, 4096, .inr (.inl (fun _ => 0))))] := hD
  have hK : va_K (dC, dI) vwCl [(c_2, .long)] s := hK
  refine va_putF (D := (dC, dI)) (ci := 2) (v := .ref q_1) (ty := .array .long) (C := RX2) (T := TX2) (N := 3) hx hb hta inA_X2 tyX2 tyX2_ok nmX2 hown hK hP hD hS 0 rfl rfl 0 (by decide) (hta _ aw_63) (fun _ h9 => h9) rfl hin rfl (by decide +kernel) rfl rfl (Nat.le_of_ble_eq_true rfl) dX2_init_10 (fun H locs hP hD hS => ?_)
  have hP : va_P (dC, dI) vwCl [(h0, .inr (2, [.ref q_1, .null, .int (0 : Int32)])), (q_1, .inl (c_2, 4096, .inr (.inl (fun _ => 0))))] H := hP
  have hD : va_D A [(h0, .inr (2, [.ref q_1, .null, .int (0 : Int32)])), (q_1, .inl (c_2, 4096, .inr (.inl (fun _ => 0))))] := hD
  refine lv_aload_n hx hb dX2_init_13 rfl (lv_at hl 0 rfl) ?_
  refine lv_sipush (v := 256) hx hb dX2_init_14 (by decide) ?_
  refine va_newa (atype := .int) (N' := 256) (a0 := (256, .inl (fun _ => 0))) (ty := .int) (n := 256) hx hb (hta _ aw_78) rfl hK hP hD hS hA (fun _ => rfl) (by decide) (by decide) (by decide) (Nat.le_of_ble_eq_true rfl) (Nat.le_of_ble_eq_true rfl) dX2_init_17 (fun q_3 c_4 H hK hP hD hS => ?_)
  refine W.widen (k := 2) (n := 4352) (Nat.le_of_ble_eq_true rfl) (Nat.le_of_ble_eq_true rfl) ?_
  have hP : va_P (dC, dI) vwCl [(h0, .inr (2, [.ref q_1, .null, .int (0 : Int32)])), (q_1, .inl (c_2, 4096, .inr (.inl (fun _ => 0)))), (q_3, .inl (c_4, 256, .inl (fun _ => 0)))] H := hP
  have hD : va_D A [(h0, .inr (2, [.ref q_1, .null, .int (0 : Int32)])), (q_1, .inl (c_2, 4096, .inr (.inl (fun _ => 0)))), (q_3, .inl (c_4, 256, .inl (fun _ => 0)))] := hD
  have hK : va_K (dC, dI) vwCl [(c_2, .long), (c_4, .int)] s := hK
  refine va_putF (D := (dC, dI)) (ci := 2) (v := .ref q_3) (ty := .array .int) (C := RX2) (T := TX2) (N := 3) hx hb hta inA_X2 tyX2 tyX2_ok nmX2 hown hK hP hD hS 0 rfl rfl 1 (by decide) (hta _ aw_66) (fun _ h9 => h9) rfl hin rfl (by decide +kernel) rfl rfl (Nat.le_of_ble_eq_true rfl) dX2_init_19 (fun H locs hP hD hS => ?_)
  have hP : va_P (dC, dI) vwCl [(h0, .inr (2, [.ref q_1, .ref q_3, .int (0 : Int32)])), (q_1, .inl (c_2, 4096, .inr (.inl (fun _ => 0)))), (q_3, .inl (c_4, 256, .inl (fun _ => 0)))] H := hP
  have hD : va_D A [(h0, .inr (2, [.ref q_1, .ref q_3, .int (0 : Int32)])), (q_1, .inl (c_2, 4096, .inr (.inl (fun _ => 0)))), (q_3, .inl (c_4, 256, .inl (fun _ => 0)))] := hD
  refine lv_iconst (v := 0) hx hb dX2_init_22 (by decide) ?_
  refine lv_istore_n (lv' := [(1, .int (0 : Int32)), (0, .ref h0)]) hx hb dX2_init_23 rfl hl (by decide) rfl (fun ls hl => ?_)
  have loop : ∀ (j i : Nat) (f : Nat → Int32), i + j = 256 → f = hoF i → ∀ (H : Heap) (locs : List Loc), va_P (dC, dI) vwCl [(h0, .inr (2, [.ref q_1, .ref q_3, .int (0 : Int32)])), (q_1, .inl (c_2, 4096, .inr (.inl (fun _ => 0)))), (q_3, .inl (c_4, 256, .inl f))] H → va_D A [(h0, .inr (2, [.ref q_1, .ref q_3, .int (0 : Int32)])), (q_1, .inl (c_2, 4096, .inr (.inl (fun _ => 0)))), (q_3, .inl (c_4, 256, .inl f))] → va_S A s.heap H locs → ∀ (ls : Array Slot), lv_has ls 2 [(1, .int (nI i)), (0, .ref h0)] → W p l e ({ frames := 1, cells := 2, slots := 4352, locals := 12 }) s m [.ref h0].toArray below meth c H locs 2 4352 (MQ below (va_Qv (fun (_ : Unit) => True) (fun (_ : Unit) (t : State) => ∃ (q1 q2 : Nat) (c1 c2 : ClassId) (f : Nat → Int32), va_P (dC, dI) vwCl [(h0, .inr (2, [.ref q1, .ref q2, .int 0])), (q1, .inl (c1, 4096, .inr (.inl (fun _ => 0)))), (q2, .inl (c2, 256, .inl f))] t.heap ∧ va_K (dC, dI) vwCl [(c1, .long), (c2, .int)] t ∧ va_D A [(h0, .inr (2, [.ref q1, .ref q2, .int 0])), (q1, .inl (c1, 4096, .inr (.inl (fun _ => 0)))), (q2, .inl (c2, 256, .inl f))] ∧ f = hoF 256) A) [.ref h0].toArray s 2 4352 A) (F0 m 24 ls []) := by
    intro j
    induction j with
    | zero =>
      intro i f hi hf H locs hP hD hS ls hl
      refine lv_iload_n hx hb dX2_init_24 rfl (lv_at hl 0 rfl) ?_
      refine lv_sipush (v := 256) hx hb dX2_init_25 (by decide) ?_
      refine lv_icmp_ge (tgt := 44) hx hb dX2_init_28 (by decide) (fun c_28_50 => ?_) (fun c_28_50 => ?_)
      · exact W.vret hx hb hr (fun t ht hW => ⟨⟨(), rfl, trivial, q_1, q_3, c_2, c_4, f, by rw [ht]; exact hP, va_K.moved hW.alike hK, hD, by rw [hf, show i = 256 by omega]⟩, hS.F ht⟩) hS.2.2 dX2_init_44
      · exact absurd (show nI 256 ≤ nI i from nI_le (by omega) (by omega)) c_28_50
    | succ j ih =>
      intro i f hi hf H locs hP hD hS ls hl
      refine lv_iload_n hx hb dX2_init_24 rfl (lv_at hl 0 rfl) ?_
      refine lv_sipush (v := 256) hx hb dX2_init_25 (by decide) ?_
      refine lv_icmp_ge (tgt := 44) hx hb dX2_init_28 (by decide) (fun c_28_50 => ?_) (fun c_28_50 => ?_)
      · exact absurd (show nI 256 ≤ nI i from c_28_50) (nI_ge (by omega) (by omega))
      · refine lv_aload_n hx hb dX2_init_31 rfl (lv_at hl 1 rfl) ?_
        refine va_get (D := (dC, dI)) (ci := 2) (v := .ref q_3) (C := RX2) (T := TX2) (N := 3) hx hb hta inA_X2 hown hK hP 0 rfl rfl 1 (by decide) (hta _ aw_66) (fun _ h9 => h9) rfl dX2_init_32 ?_
        refine lv_iload_n hx hb dX2_init_35 rfl (lv_at hl 0 rfl) ?_
        refine lv_iconst (v := (-1)) hx hb dX2_init_36 (by decide) ?_
        refine va_iast hx hb hK hP hD hS 2 1 rfl rfl (vp_in_nI (by omega) (by omega)) dX2_init_37 (fun H locs hP hD hS => ?_)
        rw [nI_clamp (show i < 2 ^ 31 by omega)] at hP hD
        have hP : va_P (dC, dI) vwCl [(h0, .inr (2, [.ref q_1, .ref q_3, .int (0 : Int32)])), (q_1, .inl (c_2, 4096, .inr (.inl (fun _ => 0)))), (q_3, .inl (c_4, 256, .inl (upd f i (-1 : Int32))))] H := hP
        have hD : va_D A [(h0, .inr (2, [.ref q_1, .ref q_3, .int (0 : Int32)])), (q_1, .inl (c_2, 4096, .inr (.inl (fun _ => 0)))), (q_3, .inl (c_4, 256, .inl (upd f i (-1 : Int32))))] := hD
        refine lv_iinc (v := nI (i + 1)) (lv' := [(1, .int (nI (i + 1))), (0, .ref h0)]) hx hb dX2_init_38 hl (k := 0) rfl (cx_inc i 1 rfl) (by decide) rfl (fun ls hl => ?_)
        refine lv_goto (tgt := 24) hx hb dX2_init_41 (by decide) ?_
        exact ih (i + 1) _ (by omega) (by rw [hf, hoF_step]) H locs hP hD hS ls (lv_sub hl [0, 1] rfl)
  exact loop 256 0 (fun _ => 0) (by omega) hoF_0 H locs hP hD hS ls (lv_sub hl [0, 1] rfl)
set_option maxHeartbeats 4000000 in
set_option maxRecDepth 100000 in
theorem c_X3_init (l : Launch) (dC : Nat → ClassId) (dI : Nat → Nat → Nat) (h0 sz : Nat) (b1 : Nat) (p1 : Int32)  : Met l yX3_init (wX3_init :: AW) ({ frames := 1, cells := 1, slots := 4, locals := 12 }) (va_Pc [.ref h0, .ref b1, .int p1] (CPrQ dC dI [(h0, .inr (3, [.null, .int 0, .null, .int 0, .long 0, .int 0, .int 0, .int 0]))] [] sz)) (va_Qv (fun (_ : Unit) => True) (fun (_ : Unit) (t : State) => ∃ (q1 : Nat) (c1 : ClassId), va_P (dC, dI) vwCl [(h0, .inr (3, [.ref b1, .int p1, .ref q1, .int 0, .long 0, .int 0, .int 0, .int 0])), (q1, .inl (c1, 4, .inl (fun _ => 0)))] t.heap ∧ va_K (dC, dI) vwCl [(c1, .int)] t ∧ va_D (va_A [(h0, .inr (3, [.null, .int 0, .null, .int 0, .long 0, .int 0, .int 0, .int 0]))] sz) [(h0, .inr (3, [.ref b1, .int p1, .ref q1, .int 0, .long 0, .int 0, .int 0, .int 0])), (q1, .inl (c1, 4, .inl (fun _ => 0)))]) (va_A [(h0, .inr (3, [.null, .int 0, .null, .int 0, .long 0, .int 0, .int 0, .int 0]))] sz)) 1 4 (va_A [(h0, .inr (3, [.null, .int 0, .null, .int 0, .long 0, .int 0, .int 0, .int 0]))] sz) := by
  refine cx_of (cc := cX3_init) (maxL := 3) (ret := none) (by decide) rfl (Nat.le_of_ble_eq_true rfl) ?_
  intro p e s m below meth c ls hx hb hr hts hown hlocks hml hnm hl hB
  have hta : ∀ w ∈ AW, w.before [.ref h0, .ref b1, .int p1].toArray s = true := fun w h => hts w (List.mem_cons_of_mem _ h)
  have hl : lv_has ls 3 [(0, .ref h0), (1, .ref b1), (2, .int p1)] := hl
  have hown : s.vm.findClass RX3 = some m.cls := hown
  have hin : meth.name = "<init>" := hnm
  obtain ⟨rfl, ⟨hP, hK, hN⟩, hD0⟩ := hB
  have hD := hD0.self (sz := s.heap.size)
  generalize hAe : va_A [(h0, .inr (3, [.null, .int 0, .null, .int 0, .long 0, .int 0, .int 0, .int 0]))] s.heap.size = A at hD ⊢
  have hA : ∀ q : Nat, s.heap.size ≤ q → A q := fun q h => by rw [← hAe]; exact Or.inr h
  have hS : va_S A s.heap s.heap [] := va_S.rf
  refine lv_aload_n hx hb dX3_init_0 rfl (lv_at hl 0 rfl) ?_
  refine W.objInit hx hb hown (hta _ aw_84) (hta _ aw_55) (hta _ aw_56) rfl (by rw [hml]; exact hl.1) rfl dX3_init_1 (Nat.le_of_ble_eq_true rfl) (Nat.le_of_ble_eq_true rfl) ?_
  refine W.eq (g2 := F0 m 4 ls []) rfl ?_
  refine lv_aload_n hx hb dX3_init_4 rfl (lv_at hl 0 rfl) ?_
  refine lv_aload_n hx hb dX3_init_5 rfl (lv_at hl 1 rfl) ?_
  refine va_putF (D := (dC, dI)) (ci := 3) (v := .ref b1) (ty := .object "PageRows$Memory") (C := RX3) (T := TX3) (N := 8) hx hb hta inA_X3 tyX3 tyX3_ok nmX3 hown hK hP hD hS 0 rfl rfl 0 (by decide) (hta _ aw_85) (fun _ h9 => h9) rfl hin rfl (by decide +kernel) rfl rfl (Nat.le_of_ble_eq_true rfl) dX3_init_6 (fun H locs hP hD hS => ?_)
  have hP : va_P (dC, dI) vwCl [(h0, .inr (3, [.ref b1, .int (0 : Int32), .null, .int (0 : Int32), .long (0 : Int64), .int (0 : Int32), .int (0 : Int32), .int (0 : Int32)]))] H := hP
  have hD : va_D A [(h0, .inr (3, [.ref b1, .int (0 : Int32), .null, .int (0 : Int32), .long (0 : Int64), .int (0 : Int32), .int (0 : Int32), .int (0 : Int32)]))] := hD
  refine lv_aload_n hx hb dX3_init_9 rfl (lv_at hl 0 rfl) ?_
  refine lv_iload_n hx hb dX3_init_10 rfl (lv_at hl 2 rfl) ?_
  refine va_putF (D := (dC, dI)) (ci := 3) (v := .int p1) (ty := .int) (C := RX3) (T := TX3) (N := 8) hx hb hta inA_X3 tyX3 tyX3_ok nmX3 hown hK hP hD hS 0 rfl rfl 1 (by decide) (hta _ aw_86) (fun _ h9 => h9) rfl hin rfl (by decide +kernel) rfl rfl (Nat.le_of_ble_eq_true rfl) dX3_init_11 (fun H locs hP hD hS => ?_)
  have hP : va_P (dC, dI) vwCl [(h0, .inr (3, [.ref b1, .int p1, .null, .int (0 : Int32), .long (0 : Int64), .int (0 : Int32), .int (0 : Int32), .int (0 : Int32)]))] H := hP
  have hD : va_D A [(h0, .inr (3, [.ref b1, .int p1, .null, .int (0 : Int32), .long (0 : Int64), .int (0 : Int32), .int (0 : Int32), .int (0 : Int32)]))] := hD
  refine lv_aload_n hx hb dX3_init_14 rfl (lv_at hl 0 rfl) ?_
  refine lv_iconst (v := 4) hx hb dX3_init_15 (by decide) ?_
  refine va_newa (atype := .int) (N' := 4) (a0 := (4, .inl (fun _ => 0))) (ty := .int) (n := 4) hx hb (hta _ aw_78) rfl hK hP hD hS hA (fun _ => rfl) (by decide) (by decide) (by decide) (Nat.le_of_ble_eq_true rfl) (Nat.le_of_ble_eq_true rfl) dX3_init_16 (fun q_1 c_2 H hK hP hD hS => ?_)
  refine W.widen (k := 1) (n := 4) (Nat.le_of_ble_eq_true rfl) (Nat.le_of_ble_eq_true rfl) ?_
  have hP : va_P (dC, dI) vwCl [(h0, .inr (3, [.ref b1, .int p1, .null, .int (0 : Int32), .long (0 : Int64), .int (0 : Int32), .int (0 : Int32), .int (0 : Int32)])), (q_1, .inl (c_2, 4, .inl (fun _ => 0)))] H := hP
  have hD : va_D A [(h0, .inr (3, [.ref b1, .int p1, .null, .int (0 : Int32), .long (0 : Int64), .int (0 : Int32), .int (0 : Int32), .int (0 : Int32)])), (q_1, .inl (c_2, 4, .inl (fun _ => 0)))] := hD
  have hK : va_K (dC, dI) vwCl [(c_2, .int)] s := hK
  refine va_putF (D := (dC, dI)) (ci := 3) (v := .ref q_1) (ty := .array .int) (C := RX3) (T := TX3) (N := 8) hx hb hta inA_X3 tyX3 tyX3_ok nmX3 hown hK hP hD hS 0 rfl rfl 2 (by decide) (hta _ aw_87) (fun _ h9 => h9) rfl hin rfl (by decide +kernel) rfl rfl (Nat.le_of_ble_eq_true rfl) dX3_init_18 (fun H locs hP hD hS => ?_)
  have hP : va_P (dC, dI) vwCl [(h0, .inr (3, [.ref b1, .int p1, .ref q_1, .int (0 : Int32), .long (0 : Int64), .int (0 : Int32), .int (0 : Int32), .int (0 : Int32)])), (q_1, .inl (c_2, 4, .inl (fun _ => 0)))] H := hP
  have hD : va_D A [(h0, .inr (3, [.ref b1, .int p1, .ref q_1, .int (0 : Int32), .long (0 : Int64), .int (0 : Int32), .int (0 : Int32), .int (0 : Int32)])), (q_1, .inl (c_2, 4, .inl (fun _ => 0)))] := hD
  exact W.vret hx hb hr (fun t ht hW => ⟨⟨(), rfl, trivial, q_1, c_2, by rw [ht]; exact hP, va_K.moved hW.alike hK, hD⟩, hS.F ht⟩) hS.2.2 dX3_init_21
