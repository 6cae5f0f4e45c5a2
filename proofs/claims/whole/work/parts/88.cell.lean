def mCell (Ls : Nat) (xs : Nat → Int32) (j : Nat) : Int32 := if Ls ≤ j then 0 else xs j
def CellP (b Ls : Nat) (xs : Nat → Int32) (U : State) : Prop := va_X b Ls xs U U.heap ∧ b < U.heap.size
theorem cell_blind {b Ls : Nat} {xs : Nat → Int32} {av : List Value} : FrameBlind (va_Pc av (CellP b Ls xs)) :=
  fun a U g mk q => ⟨q.1, va_X.moved (u := U) (U := U.calling g mk a) (Vm.Alike.refl U.vm) q.2.1, q.2.2⟩
theorem cell_pre {s : State} {H : Heap} {b Ls : Nat} {xs : Nat → Int32} {A : Nat → Prop} {locs : List Loc} {As : List Value} (hX : va_X b Ls xs s s.heap) (hbl : b < s.heap.size) (hbA : ¬ A b) (hS : va_S A s.heap H locs) : PreS s H (va_Pc As (CellP b Ls xs)) As :=
  ⟨cell_blind, fun U hU hW => ⟨rfl, by rw [hU]; exact (hX.kept (hS.2.1 b hbl hbA)).moved hW.alike, by rw [hU]; exact Nat.lt_of_lt_of_le hbl hS.1⟩⟩
set_option maxHeartbeats 4000000 in
set_option maxRecDepth 100000 in
theorem c_L_cell (l : Launch) (b Ls : Nat) (xs : Nat → Int32) (j : Nat) (hLs : Ls ≤ 2050) (hj : j ≤ 2050) : Met l yL_cell (wL_cell :: AW) ({ frames := 0, cells := 0, slots := 0, locals := 0 }) (va_Pc [.ref b, .int (nI j)] (CellP b Ls xs)) (vp_Si (fun r => r = mCell Ls xs j)) 0 0 (fun _ => False) := by
  refine cx_of (cc := cL_cell) (maxL := 2) (ret := some .int) (by decide) rfl (Nat.le_of_ble_eq_true rfl) ?_
  intro p e s m below meth c ls hx hb hr hts hown hlocks hml hnm hl hB
  have hl : lv_has ls 2 [(0, .ref b), (1, .int (nI j))] := hl
  obtain ⟨hX, hbl⟩ := hB
  have hbA : ¬ (fun _ : Nat => False) b := fun h => h
  have hS : va_S (fun _ : Nat => False) s.heap s.heap [] := va_S.rf
  refine lv_iload_n hx hb dL_cell_0 rfl (lv_at hl 1 rfl) ?_
  refine lv_aload_n hx hb dL_cell_1 rfl (lv_at hl 0 rfl) ?_
  refine va_slen hx hb hX hbl hbA hS dL_cell_2 ?_
  refine lv_icmp_ge (tgt := 12) hx hb dL_cell_3 (by decide) (fun c_3_0 => ?_) (fun c_3_0 => ?_)
  · refine lv_iconst (v := 0) hx hb dL_cell_12 (by decide) ?_
    exact W.iret (v := (0 : Int32)) hx hb hr (fun t ht hW => ⟨(0 : Int32), rfl, (by unfold mCell; rw [if_pos ((nI_leI (by omega) (by omega)).mp (show nI Ls ≤ nI j from c_3_0))]), ht⟩) (fun q h => nomatch h) dL_cell_13
  · have hjL : j < Ls := Nat.lt_of_not_le (fun q => c_3_0 (show nI Ls ≤ nI j from nI_le q (by omega)))
    refine lv_aload_n hx hb dL_cell_6 rfl (lv_at hl 0 rfl) ?_
    refine lv_iload_n hx hb dL_cell_7 rfl (lv_at hl 1 rfl) ?_
    refine va_sld hx hb hX hbl hbA hS (vp_in_nI (show j < Ls by omega) (by omega)) dL_cell_8 ?_
    rw [nI_clamp (show j < 2 ^ 31 by omega)]
    refine lv_goto (tgt := 13) hx hb dL_cell_9 (by decide) ?_
    exact W.iret (v := xs j) hx hb hr (fun t ht hW => ⟨xs j, rfl, (by unfold mCell; rw [if_neg (fun q => c_3_0 (show nI Ls ≤ nI j from nI_le q (by omega)))]), ht⟩) (fun q h => nomatch h) dL_cell_13
