/-- how many entries f .. are used later than e: j left, c so far -/
def mLat (eU : Nat → Int32) (e9 : Nat) : Nat → Nat → Nat → Nat
  | 0, _, c => c
  | j + 1, f, c => mLat eU e9 j (f + 1) (if eU f ≤ eU e9 then c else c + 1)
def mIno (eU : Nat → Int32) (en : Nat) (p0 : Int32) : Nat → Nat → Option Nat
  | 0, _ => none
  | j + 1, i => if nI (mLat eU i en 0 0) = p0 then some i else mIno eU en p0 j (i + 1)
theorem mIno_lt (eU : Nat → Int32) (en : Nat) (p0 : Int32) : ∀ (j i x : Nat), mIno eU en p0 j i = some x → x < i + j
  | 0, i, x, h => by cases h
  | j + 1, i, x, h => by
    unfold mIno at h
    split at h
    · cases h; omega
    · have := mIno_lt eU en p0 j (i + 1) x h
      omega

set_option maxHeartbeats 4000000 in
set_option maxRecDepth 100000 in
theorem c_X5_inOrder (l : Launch) (dC : Nat → ClassId) (dI : Nat → Nat → Nat) (ga : Nat → Nat) (gk : Nat → ClassId) (th : Int32) (L : Nat) (N : Nat) (mm : Nat → Int64) (f1 : Int32) (mr : Nat → Int32) (mh : Nat → Int32) (f8 : Int32) (en : Nat) (us : Nat) (eC : Nat → Int32) (eL : Nat → Int32) (eB : Nat → Int32) (eF : Nat → Int32) (eR : Nat → Int32) (eU : Nat → Int32) (eX : Nat → Int32) (f2 : Int32) (f3 : Int32) (f4 : Int32) (f5 : Int32) (f6 : Int32) (f7 : Int32) (f14 : Int32) (ff : Int32) (fa : Int32) (mn : Nat) (lg : Int32) (cm : Int32) (wa : Nat → Int32)  (p0 : Int32) (hen : en ≤ N) (hN32 : N ≤ 32) : Met l yX5_inOrder (wX5_inOrder :: AW) ({ frames := 0, cells := 0, slots := 0, locals := 0 }) (va_Pc [.ref (ga 0), .int p0] (CPre dC dI (MWl ga gk th L N mm f1 mr mh f8 en us eC eL eB eF eR eU eX f2 f3 f4 f5 f6 f7 f14 ff fa mn lg cm wa) [(gk 0, .long), (gk 1, .int), (gk 2, .int), (gk 3, .int), (gk 4, .int), (gk 5, .int), (gk 6, .int), (gk 7, .int), (gk 8, .int), (gk 9, .boolean), (gk 10, .int)])) (vp_Si (fun r => r = optI (mIno eU en p0 en 0))) 0 0 (fun _ => False) := by
  refine cx_of (cc := cX5_inOrder) (maxL := 5) (ret := some .int) (by decide) rfl (Nat.le_of_ble_eq_true rfl) ?_
  intro p e s m below meth c ls hx hb hr hts hown hlocks hml hnm hl hB
  have hta : ∀ w ∈ AW, w.before [.ref (ga 0), .int p0].toArray s = true := fun w h => hts w (List.mem_cons_of_mem _ h)
  have hl : lv_has ls 5 [(0, .ref (ga 0)), (1, .int p0)] := hl
  have hown : s.vm.findClass RX5 = some m.cls := hown
  obtain ⟨hP, hK, hN⟩ := hB
  have loop : ∀ (j i : Nat), i + j = en → mIno eU en p0 en 0 = mIno eU en p0 j i → ∀ (ls : Array Slot), lv_has ls 5 [(2, .int (nI i)), (0, .ref (ga 0)), (1, .int p0)] → W p l e ({ frames := 0, cells := 0, slots := 0, locals := 0 }) s m [.ref (ga 0), .int p0].toArray below meth c s.heap [] 0 0 (MQ below (vp_Si (fun r => r = optI (mIno eU en p0 en 0))) [.ref (ga 0), .int p0].toArray s 0 0 (fun _ => False)) (F0 m 2 ls []) := by
    intro j
    induction j with
    | zero =>
      intro i hi hm ls hl
      refine lv_iload_n hx hb dX5_inOrder_2 rfl (lv_at hl 0 rfl) ?_
      refine lv_aload_n hx hb dX5_inOrder_3 rfl (lv_at hl 1 rfl) ?_
      refine va_get (D := (dC, dI)) (ci := 5) (v := .int (nI en)) (C := RX5) (T := TX5) (N := 30) hx hb hta inA_X5 hown hK hP 0 rfl rfl 8 (by decide) (hta _ aw_519) (fun _ h9 => h9) rfl dX5_inOrder_4 ?_
      refine lv_icmp_ge (tgt := 67) hx hb dX5_inOrder_7 (by decide) (fun c_7_0 => ?_) (fun c_7_0 => ?_)
      · refine lv_iconst (v := (-1)) hx hb dX5_inOrder_67 (by decide) ?_
        exact W.iret (v := (-1 : Int32)) hx hb hr (fun t ht hW => ⟨(-1 : Int32), rfl, (by rw [hm]; rfl), ht⟩) (fun q h => nomatch h) dX5_inOrder_68
      · exact absurd (nI_le (by omega) (by omega)) c_7_0
    | succ j ih =>
      intro i hi hm ls hl
      have inner : ∀ (j9 f9 c9 : Nat), f9 + j9 = en → c9 ≤ f9 → mLat eU i en 0 0 = mLat eU i j9 f9 c9 → ∀ (ls : Array Slot), lv_has ls 5 [(4, .int (nI f9)), (3, .int (nI c9)), (2, .int (nI i)), (0, .ref (ga 0)), (1, .int p0)] → W p l e ({ frames := 0, cells := 0, slots := 0, locals := 0 }) s m [.ref (ga 0), .int p0].toArray below meth c s.heap [] 0 0 (MQ below (vp_Si (fun r => r = optI (mIno eU en p0 en 0))) [.ref (ga 0), .int p0].toArray s 0 0 (fun _ => False)) (F0 m 15 ls []) := by
        intro j9
        induction j9 with
        | zero =>
          intro f9 c9 hf hc hm9 ls hl
          refine lv_iload hx hb dX5_inOrder_15 (lv_at hl 0 rfl) ?_
          refine lv_aload_n hx hb dX5_inOrder_17 rfl (lv_at hl 3 rfl) ?_
          refine va_get (D := (dC, dI)) (ci := 5) (v := .int (nI en)) (C := RX5) (T := TX5) (N := 30) hx hb hta inA_X5 hown hK hP 0 rfl rfl 8 (by decide) (hta _ aw_519) (fun _ h9 => h9) rfl dX5_inOrder_18 ?_
          refine lv_icmp_ge (tgt := 54) hx hb dX5_inOrder_21 (by decide) (fun c_21_1 => ?_) (fun c_21_1 => ?_)
          · refine lv_iload_n hx hb dX5_inOrder_54 rfl (lv_at hl 1 rfl) ?_
            refine lv_iload_n hx hb dX5_inOrder_55 rfl (lv_at hl 4 rfl) ?_
            refine lv_icmp_ne (tgt := 61) hx hb dX5_inOrder_56 (by decide) (fun c_56_2 => ?_) (fun c_56_2 => ?_)
            · refine lv_iinc (v := nI (i + 1)) (lv' := [(2, .int (nI (i + 1))), (4, .int (nI f9)), (3, .int (nI c9)), (0, .ref (ga 0)), (1, .int p0)]) hx hb dX5_inOrder_61 hl (k := 2) rfl (cx_inc i 1 rfl) (by decide) rfl (fun ls hl => ?_)
              refine lv_goto (tgt := 2) hx hb dX5_inOrder_64 (by decide) ?_
              exact ih (i + 1) (by omega) (by rw [hm, mIno, hm9]; show (if nI c9 = p0 then _ else _) = _; rw [if_neg c_56_2]) ls (lv_sub hl [0, 3, 4] rfl)
            · refine lv_iload_n hx hb dX5_inOrder_59 rfl (lv_at hl 2 rfl) ?_
              exact W.iret (v := nI i) hx hb hr (fun t ht hW => ⟨nI i, rfl, (by rw [hm, mIno, hm9]; show _ = optI (if nI c9 = p0 then _ else _); rw [if_pos c_56_2]; rfl), ht⟩) (fun q h => nomatch h) dX5_inOrder_60
          · exact absurd (nI_le (by omega) (by omega)) c_21_1
        | succ j9 ih9 =>
          intro f9 c9 hf hc hm9 ls hl
          refine lv_iload hx hb dX5_inOrder_15 (lv_at hl 0 rfl) ?_
          refine lv_aload_n hx hb dX5_inOrder_17 rfl (lv_at hl 3 rfl) ?_
          refine va_get (D := (dC, dI)) (ci := 5) (v := .int (nI en)) (C := RX5) (T := TX5) (N := 30) hx hb hta inA_X5 hown hK hP 0 rfl rfl 8 (by decide) (hta _ aw_519) (fun _ h9 => h9) rfl dX5_inOrder_18 ?_
          refine lv_icmp_ge (tgt := 54) hx hb dX5_inOrder_21 (by decide) (fun c_21_3 => ?_) (fun c_21_3 => ?_)
          · exact absurd c_21_3 (nI_ge (by omega) (by omega))
          · refine lv_iload_n hx hb dX5_inOrder_24 rfl (lv_at hl 1 rfl) ?_
            refine lv_aload_n hx hb dX5_inOrder_25 rfl (lv_at hl 3 rfl) ?_
            refine va_get (D := (dC, dI)) (ci := 5) (v := .ref (ga 9)) (C := RX5) (T := TX5) (N := 30) hx hb hta inA_X5 hown hK hP 0 rfl rfl 15 (by decide) (hta _ aw_526) (fun _ h9 => h9) rfl dX5_inOrder_26 ?_
            refine lv_iload hx hb dX5_inOrder_29 (lv_at hl 0 rfl) ?_
            refine va_iald hx hb hK hP 9 8 rfl rfl (vp_in_nI (by omega) (by omega)) dX5_inOrder_31 ?_
            rw [nI_clamp (show f9 < 2 ^ 31 by omega)]
            refine lv_aload_n hx hb dX5_inOrder_32 rfl (lv_at hl 3 rfl) ?_
            refine va_get (D := (dC, dI)) (ci := 5) (v := .ref (ga 9)) (C := RX5) (T := TX5) (N := 30) hx hb hta inA_X5 hown hK hP 0 rfl rfl 15 (by decide) (hta _ aw_526) (fun _ h9 => h9) rfl dX5_inOrder_33 ?_
            refine lv_iload_n hx hb dX5_inOrder_36 rfl (lv_at hl 2 rfl) ?_
            refine va_iald hx hb hK hP 9 8 rfl rfl (vp_in_nI (by omega) (by omega)) dX5_inOrder_37 ?_
            rw [nI_clamp (show i < 2 ^ 31 by omega)]
            refine lv_icmp_le (tgt := 45) hx hb dX5_inOrder_38 (by decide) (fun c_38_4 => ?_) (fun c_38_4 => ?_)
            · refine lv_iconst (v := 0) hx hb dX5_inOrder_45 (by decide) ?_
              refine lv_iadd hx hb dX5_inOrder_46 ?_
              rw [show (nI c9) + (0 : Int32) = nI (c9 + 0) from nI_add c9 0]
              refine lv_istore_n (lv' := [(3, .int (nI (c9 + 0))), (4, .int (nI f9)), (2, .int (nI i)), (0, .ref (ga 0)), (1, .int p0)]) hx hb dX5_inOrder_47 rfl hl (by decide) rfl (fun ls hl => ?_)
              refine lv_iinc (v := nI (f9 + 1)) (lv' := [(4, .int (nI (f9 + 1))), (3, .int (nI (c9 + 0))), (2, .int (nI i)), (0, .ref (ga 0)), (1, .int p0)]) hx hb dX5_inOrder_48 hl (k := 1) rfl (cx_inc f9 1 rfl) (by decide) rfl (fun ls hl => ?_)
              refine lv_goto (tgt := 15) hx hb dX5_inOrder_51 (by decide) ?_
              exact ih9 (f9 + 1) c9 (by omega) (by omega) (by rw [hm9, mLat, if_pos c_38_4]) ls (lv_sub hl [0, 1, 2, 3, 4] rfl)
            · refine lv_iconst (v := 1) hx hb dX5_inOrder_41 (by decide) ?_
              refine lv_goto (tgt := 46) hx hb dX5_inOrder_42 (by decide) ?_
              refine lv_iadd hx hb dX5_inOrder_46 ?_
              rw [show (nI c9) + (1 : Int32) = nI (c9 + 1) from nI_add c9 1]
              refine lv_istore_n (lv' := [(3, .int (nI (c9 + 1))), (4, .int (nI f9)), (2, .int (nI i)), (0, .ref (ga 0)), (1, .int p0)]) hx hb dX5_inOrder_47 rfl hl (by decide) rfl (fun ls hl => ?_)
              refine lv_iinc (v := nI (f9 + 1)) (lv' := [(4, .int (nI (f9 + 1))), (3, .int (nI (c9 + 1))), (2, .int (nI i)), (0, .ref (ga 0)), (1, .int p0)]) hx hb dX5_inOrder_48 hl (k := 1) rfl (cx_inc f9 1 rfl) (by decide) rfl (fun ls hl => ?_)
              refine lv_goto (tgt := 15) hx hb dX5_inOrder_51 (by decide) ?_
              exact ih9 (f9 + 1) (c9 + 1) (by omega) (by omega) (by rw [hm9, mLat, if_neg c_38_4]) ls (lv_sub hl [0, 1, 2, 3, 4] rfl)
      refine lv_iload_n hx hb dX5_inOrder_2 rfl (lv_at hl 0 rfl) ?_
      refine lv_aload_n hx hb dX5_inOrder_3 rfl (lv_at hl 1 rfl) ?_
      refine va_get (D := (dC, dI)) (ci := 5) (v := .int (nI en)) (C := RX5) (T := TX5) (N := 30) hx hb hta inA_X5 hown hK hP 0 rfl rfl 8 (by decide) (hta _ aw_519) (fun _ h9 => h9) rfl dX5_inOrder_4 ?_
      refine lv_icmp_ge (tgt := 67) hx hb dX5_inOrder_7 (by decide) (fun c_7_5 => ?_) (fun c_7_5 => ?_)
      · exact absurd c_7_5 (nI_ge (by omega) (by omega))
      · refine lv_iconst (v := 0) hx hb dX5_inOrder_10 (by decide) ?_
        refine lv_istore_n (lv' := [(3, .int (0 : Int32)), (2, .int (nI i)), (0, .ref (ga 0)), (1, .int p0)]) hx hb dX5_inOrder_11 rfl hl (by decide) rfl (fun ls hl => ?_)
        refine lv_iconst (v := 0) hx hb dX5_inOrder_12 (by decide) ?_
        refine lv_istore (lv' := [(4, .int (0 : Int32)), (3, .int (0 : Int32)), (2, .int (nI i)), (0, .ref (ga 0)), (1, .int p0)]) hx hb dX5_inOrder_13 hl (by decide) rfl (fun ls hl => ?_)
        exact inner en 0 0 (by omega) (by omega) rfl ls (lv_sub hl [0, 1, 2, 3, 4] rfl)
  refine lv_iconst (v := 0) hx hb dX5_inOrder_0 (by decide) ?_
  refine lv_istore_n (lv' := [(2, .int (0 : Int32)), (0, .ref (ga 0)), (1, .int p0)]) hx hb dX5_inOrder_1 rfl hl (by decide) rfl (fun ls hl => ?_)
  exact loop en 0 (by omega) rfl ls (lv_sub hl [0, 1, 2] rfl)
