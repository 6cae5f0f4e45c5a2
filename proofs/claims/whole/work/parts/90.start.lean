set_option maxHeartbeats 4000000 in
set_option maxRecDepth 100000 in
theorem whole_start {p : Program} {e : Env} {s : State} {m : MethodId} {below : List Frame} {meth : Method} {c : Code} (l : Launch) (hl9 : l.stackTraces = false) {b Ls : Nat} {xs : Nat → Int32} (hL : Ls ≤ 2050) (C0 : lw_At p s m meth c b Ls xs) : W p l e room_1 s m #[Value.ref b] below meth c s.heap [] 0 0 (lw_Z below #[Value.ref b] s) (entryFrame m ([Value.ref b] : List Value).toArray 8) := by
  obtain ⟨hx, hb, hr, hml, hown, hts, hX, hbl, hlocks, hgv⟩ := id C0
  have hb : c.code = cL_law := hb
  have hown : s.vm.findClass RL = some m.cls := hown
  have hA : ∀ q : Nat, s.heap.size ≤ q → (fun q : Nat => s.heap.size ≤ q) q := fun _ h => h
  have hbA : ¬ (fun q : Nat => s.heap.size ≤ q) b := Nat.not_le.mpr hbl
  have hta : ∀ w ∈ AW, w.before #[Value.ref b] s = true := fun w h => hts w (AW_tbl h)
  have hN := start_NX hts
  have hXW := start_XW hts hgv
  have hXZ := start_XZ hts hgv
  have hNc := start_Nc hgv
  have hO := start_AO hts
  obtain ⟨c0, i0, hK0⟩ := u_known (C := RX0) (T := TX0) (N := 3) (n := 3) hta inA_X0 (hta _ aw_116)
  obtain ⟨c1, i1, hK1⟩ := u_known (C := RX1) (T := TX1) (N := 6) (n := 6) hta inA_X1 (hta _ aw_123)
  obtain ⟨c2, i2, hK2⟩ := u_known (C := RX2) (T := TX2) (N := 3) (n := 3) hta inA_X2 (hta _ aw_58)
  obtain ⟨c3, i3, hK3⟩ := u_known (C := RX3) (T := TX3) (N := 8) (n := 8) hta inA_X3 (hta _ aw_80)
  obtain ⟨c4, i4, hK4⟩ := u_known (C := RX4) (T := TX4) (N := 12) (n := 12) hta inA_X4 (hta _ aw_50)
  obtain ⟨c5, i5, hK5⟩ := u_known (C := RX5) (T := TX5) (N := 30) (n := 30) hta inA_X5 (hta _ aw_506)
  obtain ⟨dC, dI, hKc⟩ : ∃ (dC : Nat → ClassId) (dI : Nat → Nat → Nat), ∀ (k : Nat) (q : vw_C), vwCl[k]? = some q → u_Kn s q.1 q.2.1 q.2.2 (dC k) (dI k) := by
    refine ⟨fun k => [c0, c1, c2, c3, c4, c5].getD k c0, fun k => [i0, i1, i2, i3, i4, i5].getD k i0, ?_⟩
    intro k q hq
    match k, hq with
    | 0, hq => cases hq; exact hK0
    | 1, hq => cases hq; exact hK1
    | 2, hq => cases hq; exact hK2
    | 3, hq => cases hq; exact hK3
    | 4, hq => cases hq; exact hK4
    | 5, hq => cases hq; exact hK5
    | k + 6, hq => simp [vwCl] at hq
  have hS : va_S (fun q : Nat => s.heap.size ≤ q) s.heap s.heap [] := va_S.rf
  have hK : va_K (dC, dI) vwCl [] s := ⟨hKc, fun k q h => by simp at h⟩
  have hP : va_P (dC, dI) vwCl [] s.heap := fun k q h => by simp at h
  have hD : va_D (fun q : Nat => s.heap.size ≤ q) [] := ⟨fun i j p q h => by simp at h, fun k q h => by simp at h⟩
  have hl := lv_entry ([.ref b]) (n := 8) (Nat.le_of_ble_eq_true rfl)
  rw [lg_entry_eq]
  generalize (lg_sl ([.ref b]) ++ List.replicate (8 - (lg_sl ([.ref b])).length) Slot.unset).toArray = ls at hl ⊢
  have hl : lv_has ls 8 [(0, .ref b)] := hl
  refine va_new (ci := 4) (fs := [.int 0, .null, .null, .null, .null, .int 0, .int 0, .int 0, .int 0, .int 0, .int 0, .int 0]) (C := RX4) (T := TX4) (N := 12) hx hb hta inA_X4 tyX4 tyX4_ok hown (hta _ aw_49) (hta _ aw_50) (hta _ aw_38) hK hP hD hS hA rfl (fun j hj => by rcases (show j = 0 ∨ j = 1 ∨ j = 2 ∨ j = 3 ∨ j = 4 ∨ j = 5 ∨ j = 6 ∨ j = 7 ∨ j = 8 ∨ j = 9 ∨ j = 10 ∨ j = 11 by omega) with rfl | rfl | rfl | rfl | rfl | rfl | rfl | rfl | rfl | rfl | rfl | rfl <;> rfl) (Nat.le_of_ble_eq_true rfl) (Nat.le_of_ble_eq_true rfl) dL_law_0 (fun q0 H hP hD hS => ?_)
  have hP : va_P (dC, dI) vwCl [(q0, .inr (4, [.int 0, .null, .null, .null, .null, .int 0, .int 0, .int 0, .int 0, .int 0, .int 0, .int 0]))] H := hP
  have hD : va_D (fun q : Nat => s.heap.size ≤ q) [(q0, .inr (4, [.int 0, .null, .null, .null, .null, .int 0, .int 0, .int 0, .int 0, .int 0, .int 0, .int 0]))] := hD
  refine W.widen (k := 1) (n := 12) (Nat.le_of_ble_eq_true rfl) (Nat.le_of_ble_eq_true rfl) ?_
  refine lv_dup hx hb dL_law_3 rfl ?_
  refine lv_aload_n hx hb dL_law_4 rfl (lv_at hl 0 rfl) ?_
  refine lv_iconst (v := 0) hx hb dL_law_5 (by decide) ?_
  refine cx_callSi (va_runS (As := [.ref b, .int (nI 0)]) (rest := [.ref q0, .ref q0]) ⟨hx, hb, hml, hown, hta⟩ (c_L_cell l b Ls xs 0 hL (by decide)) (va_cwS 2 hta (gS aw_225 aw_226 aw_37 aw_227) rfl rfl rfl (by decide +kernel) ⟨Nat.le_of_ble_eq_true rfl, Nat.le_of_ble_eq_true rfl⟩) (cell_pre hX hbl hbA hS) rfl rfl hl.1 rfl (lv_room (Nat.le_of_ble_eq_true rfl)) dL_law_6 ⟨Nat.le_of_ble_eq_true rfl, Nat.le_of_ble_eq_true rfl⟩) (fun r hw9 => ?_)
  rw [show r = mCell Ls xs 0 from hw9]
  clear hw9 r
  refine lv_aload_n hx hb dL_law_9 rfl (lv_at hl 0 rfl) ?_
  refine lv_iconst (v := 1) hx hb dL_law_10 (by decide) ?_
  refine cx_callSi (va_runS (As := [.ref b, .int (nI 1)]) (rest := [.int (mCell Ls xs 0), .ref q0, .ref q0]) ⟨hx, hb, hml, hown, hta⟩ (c_L_cell l b Ls xs 1 hL (by decide)) (va_cwS 2 hta (gS aw_225 aw_226 aw_37 aw_227) rfl rfl rfl (by decide +kernel) ⟨Nat.le_of_ble_eq_true rfl, Nat.le_of_ble_eq_true rfl⟩) (cell_pre hX hbl hbA hS) rfl rfl hl.1 rfl (lv_room (Nat.le_of_ble_eq_true rfl)) dL_law_11 ⟨Nat.le_of_ble_eq_true rfl, Nat.le_of_ble_eq_true rfl⟩) (fun r hw9 => ?_)
  rw [show r = mCell Ls xs 1 from hw9]
  clear hw9 r
  have hPc := hP.sub (ws' := [(q0, .inr (4, [.int 0, .null, .null, .null, .null, .int 0, .int 0, .int 0, .int 0, .int 0, .int 0, .int 0]))]) [0] rfl
  have hDc := hD.sub (ws' := [(q0, .inr (4, [.int 0, .null, .null, .null, .null, .int 0, .int 0, .int 0, .int 0, .int 0, .int 0, .int 0]))]) [0] (by decide) rfl
  have hKc9 := hK.sub (tys' := []) [] rfl
  have hFc := va_free (wc := [(q0, .inr (4, [.int 0, .null, .null, .null, .null, .int 0, .int 0, .int 0, .int 0, .int 0, .int 0, .int 0]))]) hD hS hA [0] rfl
  refine va_callv (va_runI (As := [.int (mCell Ls xs 0), .int (mCell Ls xs 1)]) (rest := [.ref q0]) ⟨hx, hb, hml, hown, hta⟩ (c_X4_init l dC dI q0 H.size (mCell Ls xs 0) (mCell Ls xs 1)) (cwI 2 hta (gC aw_53) rfl rfl rfl (hta _ aw_38) (hta _ aw_51) (hta _ aw_52) rfl (by decide +kernel) ⟨Nat.le_of_ble_eq_true rfl, Nat.le_of_ble_eq_true rfl⟩) (cx_preSA hKc9 hPc hN hDc hO) rfl rfl hl.1 rfl (lv_room (Nat.le_of_ble_eq_true rfl)) dL_law_14 ⟨Nat.le_of_ble_eq_true rfl, Nat.le_of_ble_eq_true rfl⟩) hS (fun q _ h => hFc q h) hFc (fun u t9 H1 locs ht hvm hu hB hz1 hk1 hS => ?_)
  obtain ⟨a, k, LP, rs, ho, ro, ha0, hP1, hK1, hD1, hlen, hnd, hrs, hho9, hro9⟩ := hB
  subst ha0 hho9 hro9
  rw [ht] at hP1
  have hK1 := va_K.moved hvm.symm hK1
  obtain ⟨hP, hD⟩ := va_join (wr := []) (w1 := ((CWx a k (cN (mCell Ls xs 1)) (cL (mCell Ls xs 0)) 0 (-1) (-1) 0 0 0 0 0 0 0 0 0 0 0 0 (fun _ => 0) (hoF 256) (roF 4) (fun _ => 0) rs) ++ (va_pl LP (CEf (fun _ _ => 0))))) hP hD [0] [] rfl rfl (by decide) (by decide) hk1 hFc hP1 hD1
  have hK := hK.app hK1
  clear hFc hz1 hk1 hK1 hD1 hP1 hPc hDc hKc9 ht hvm hu
  generalize H1 = H at hP hS ⊢
  have hP : va_P (dC, dI) vwCl ((CWx a k (cN (mCell Ls xs 1)) (cL (mCell Ls xs 0)) 0 (-1) (-1) 0 0 0 0 0 0 0 0 0 0 0 0 (fun _ => 0) (hoF 256) (roF 4) (fun _ => 0) rs) ++ (va_pl LP (CEf (fun _ _ => 0)))) H := hP
  have hD : va_D (fun q : Nat => s.heap.size ≤ q) ((CWx a k (cN (mCell Ls xs 1)) (cL (mCell Ls xs 0)) 0 (-1) (-1) 0 0 0 0 0 0 0 0 0 0 0 0 (fun _ => 0) (hoF 256) (roF 4) (fun _ => 0) rs) ++ (va_pl LP (CEf (fun _ _ => 0)))) := hD
  have hK : va_K (dC, dI) vwCl [(k 0, .long), (k 1, .int), (k 2, .int), (k 3, .object "PageRows$Entry"), (k 4, .int)] s := hK
  refine W.widen (k := 41) (n := 4610) (Nat.le_of_ble_eq_true rfl) (Nat.le_of_ble_eq_true rfl) ?_
  refine lv_astore_n (lv' := [(1, .ref (a 0)), (0, .ref b)]) hx hb dL_law_17 rfl hl (by decide) rfl (fun ls hl => ?_)
  refine va_new (ci := 5) (fs := [.int 0, .int 0, .int 0, .null, .int 0, .null, .null, .int 0, .int 0, .int 0, .null, .null, .null, .null, .null, .null, .null, .int 0, .int 0, .int 0, .int 0, .int 0, .int 0, .int 0, .int 0, .int 0, .int 0, .int 0, .int 0, .null]) (C := RX5) (T := TX5) (N := 30) hx hb hta inA_X5 tyX5 tyX5_ok hown (hta _ aw_505) (hta _ aw_506) (hta _ aw_43) hK hP hD hS hA rfl (fun j hj => by rcases (show j = 0 ∨ j = 1 ∨ j = 2 ∨ j = 3 ∨ j = 4 ∨ j = 5 ∨ j = 6 ∨ j = 7 ∨ j = 8 ∨ j = 9 ∨ j = 10 ∨ j = 11 ∨ j = 12 ∨ j = 13 ∨ j = 14 ∨ j = 15 ∨ j = 16 ∨ j = 17 ∨ j = 18 ∨ j = 19 ∨ j = 20 ∨ j = 21 ∨ j = 22 ∨ j = 23 ∨ j = 24 ∨ j = 25 ∨ j = 26 ∨ j = 27 ∨ j = 28 ∨ j = 29 by omega) with rfl | rfl | rfl | rfl | rfl | rfl | rfl | rfl | rfl | rfl | rfl | rfl | rfl | rfl | rfl | rfl | rfl | rfl | rfl | rfl | rfl | rfl | rfl | rfl | rfl | rfl | rfl | rfl | rfl | rfl <;> rfl) (Nat.le_of_ble_eq_true rfl) (Nat.le_of_ble_eq_true rfl) dL_law_18 (fun q1 H hP hD hS => ?_)
  have hP := va_P.swap hP
  have hD := va_D.swap hD
  have hP : va_P (dC, dI) vwCl (((CWx a k (cN (mCell Ls xs 1)) (cL (mCell Ls xs 0)) 0 (-1) (-1) 0 0 0 0 0 0 0 0 0 0 0 0 (fun _ => 0) (hoF 256) (roF 4) (fun _ => 0) rs) ++ [(q1, .inr (5, [.int 0, .int 0, .int 0, .null, .int 0, .null, .null, .int 0, .int 0, .int 0, .null, .null, .null, .null, .null, .null, .null, .int 0, .int 0, .int 0, .int 0, .int 0, .int 0, .int 0, .int 0, .int 0, .int 0, .int 0, .int 0, .null]))]) ++ (va_pl LP (CEf (fun _ _ => 0)))) H := hP
  have hD : va_D (fun q : Nat => s.heap.size ≤ q) (((CWx a k (cN (mCell Ls xs 1)) (cL (mCell Ls xs 0)) 0 (-1) (-1) 0 0 0 0 0 0 0 0 0 0 0 0 (fun _ => 0) (hoF 256) (roF 4) (fun _ => 0) rs) ++ [(q1, .inr (5, [.int 0, .int 0, .int 0, .null, .int 0, .null, .null, .int 0, .int 0, .int 0, .null, .null, .null, .null, .null, .null, .null, .int 0, .int 0, .int 0, .int 0, .int 0, .int 0, .int 0, .int 0, .int 0, .int 0, .int 0, .int 0, .null]))]) ++ (va_pl LP (CEf (fun _ _ => 0)))) := hD
  refine W.widen (k := 42) (n := 4640) (Nat.le_of_ble_eq_true rfl) (Nat.le_of_ble_eq_true rfl) ?_
  refine lv_dup hx hb dL_law_21 rfl ?_
  refine lv_aload_n hx hb dL_law_22 rfl (lv_at hl 1 rfl) ?_
  refine lv_iconst (v := 0) hx hb dL_law_23 (by decide) ?_
  refine cx_callSi (va_runS (As := [.ref b, .int (nI 0)]) (rest := [.ref q1, .ref q1]) ⟨hx, hb, hml, hown, hta⟩ (c_L_cell l b Ls xs 0 hL (by decide)) (va_cwS 2 hta (gS aw_225 aw_226 aw_37 aw_227) rfl rfl rfl (by decide +kernel) ⟨Nat.le_of_ble_eq_true rfl, Nat.le_of_ble_eq_true rfl⟩) (cell_pre hX hbl hbA hS) rfl rfl hl.1 rfl (lv_room (Nat.le_of_ble_eq_true rfl)) dL_law_24 ⟨Nat.le_of_ble_eq_true rfl, Nat.le_of_ble_eq_true rfl⟩) (fun r hw9 => ?_)
  rw [show r = mCell Ls xs 0 from hw9]
  clear hw9 r
  refine lv_aload_n hx hb dL_law_27 rfl (lv_at hl 1 rfl) ?_
  refine lv_iconst (v := 1) hx hb dL_law_28 (by decide) ?_
  refine cx_callSi (va_runS (As := [.ref b, .int (nI 1)]) (rest := [.int (mCell Ls xs 0), .ref q1, .ref q1]) ⟨hx, hb, hml, hown, hta⟩ (c_L_cell l b Ls xs 1 hL (by decide)) (va_cwS 2 hta (gS aw_225 aw_226 aw_37 aw_227) rfl rfl rfl (by decide +kernel) ⟨Nat.le_of_ble_eq_true rfl, Nat.le_of_ble_eq_true rfl⟩) (cell_pre hX hbl hbA hS) rfl rfl hl.1 rfl (lv_room (Nat.le_of_ble_eq_true rfl)) dL_law_29 ⟨Nat.le_of_ble_eq_true rfl, Nat.le_of_ble_eq_true rfl⟩) (fun r hw9 => ?_)
  rw [show r = mCell Ls xs 1 from hw9]
  clear hw9 r
  have hPc := hP.sub (ws' := [(q1, .inr (5, [.int 0, .int 0, .int 0, .null, .int 0, .null, .null, .int 0, .int 0, .int 0, .null, .null, .null, .null, .null, .null, .null, .int 0, .int 0, .int 0, .int 0, .int 0, .int 0, .int 0, .int 0, .int 0, .int 0, .int 0, .int 0, .null]))]) [9] rfl
  have hDc := hD.sub (ws' := [(q1, .inr (5, [.int 0, .int 0, .int 0, .null, .int 0, .null, .null, .int 0, .int 0, .int 0, .null, .null, .null, .null, .null, .null, .null, .int 0, .int 0, .int 0, .int 0, .int 0, .int 0, .int 0, .int 0, .int 0, .int 0, .int 0, .int 0, .null]))]) [9] (by decide) rfl
  have hKc9 := hK.sub (tys' := []) [] rfl
  have hFc := va_free (wc := [(q1, .inr (5, [.int 0, .int 0, .int 0, .null, .int 0, .null, .null, .int 0, .int 0, .int 0, .null, .null, .null, .null, .null, .null, .null, .int 0, .int 0, .int 0, .int 0, .int 0, .int 0, .int 0, .int 0, .int 0, .int 0, .int 0, .int 0, .null]))]) hD hS hA [9] rfl
  refine va_callv (va_runI (As := [.int (mCell Ls xs 0), .int (mCell Ls xs 1)]) (rest := [.ref q1]) ⟨hx, hb, hml, hown, hta⟩ (c_X5_init l dC dI q1 H.size (mCell Ls xs 0) (mCell Ls xs 1)) (cwI 2 hta (gC aw_509) rfl rfl rfl (hta _ aw_43) (hta _ aw_507) (hta _ aw_508) rfl (by decide +kernel) ⟨Nat.le_of_ble_eq_true rfl, Nat.le_of_ble_eq_true rfl⟩) (cx_preSQ hKc9 hPc hN hDc) rfl rfl hl.1 rfl (lv_room (Nat.le_of_ble_eq_true rfl)) dL_law_32 ⟨Nat.le_of_ble_eq_true rfl, Nat.le_of_ble_eq_true rfl⟩) hS (fun q _ h => hFc q h) hFc (fun u t9 H1 locs ht hvm hu hB hz1 hk1 hS => ?_)
  obtain ⟨ga, gk, mr, mh, ha1, hP1, hK1, hD1, hmh9, hmr9⟩ := hB
  subst ha1 hmh9 hmr9
  rw [ht] at hP1
  have hK1 := va_K.moved hvm.symm hK1
  obtain ⟨hP, hD⟩ := va_joinQ (X := (CWx a k (cN (mCell Ls xs 1)) (cL (mCell Ls xs 0)) 0 (-1) (-1) 0 0 0 0 0 0 0 0 0 0 0 0 (fun _ => 0) (hoF 256) (roF 4) (fun _ => 0) rs) ++ [(ga 0, .inr (5, [.int 0, .int 0, .int 0, .null, .int 0, .null, .null, .int 0, .int 0, .int 0, .null, .null, .null, .null, .null, .null, .null, .int 0, .int 0, .int 0, .int 0, .int 0, .int 0, .int 0, .int 0, .int 0, .int 0, .int 0, .int 0, .null]))]) (cx := [(ga 0, .inr (5, [.int 0, .int 0, .int 0, .null, .int 0, .null, .null, .int 0, .int 0, .int 0, .null, .null, .null, .null, .null, .null, .null, .int 0, .int 0, .int 0, .int 0, .int 0, .int 0, .int 0, .int 0, .int 0, .int 0, .int 0, .int 0, .null]))]) (wr := (CWx a k (cN (mCell Ls xs 1)) (cL (mCell Ls xs 0)) 0 (-1) (-1) 0 0 0 0 0 0 0 0 0 0 0 0 (fun _ => 0) (hoF 256) (roF 4) (fun _ => 0) rs)) (w1 := (MWl ga gk 0 (cL (mCell Ls xs 0)) (cN (mCell Ls xs 1)) (fun _ => 0) 0 (roF 4) (hoF 256) 0 0 0 (fun _ => 0) (fun _ => 0) (fun _ => 0) (fun _ => 0) (fun _ => 0) (fun _ => 0) (fun _ => 0) (-1) (-1) 0 0 0 0 0 0 0 0 0 0 (fun _ => 0))) (pl := (va_pl LP (CEf (fun _ _ => 0)))) hP hD [9] [0, 1, 2, 3, 4, 5, 6, 7, 8] rfl rfl (by decide) (by decide) hk1 hFc hP1 hD1
  have hK := hK.app hK1
  clear hFc hz1 hk1 hK1 hD1 hP1 hPc hDc hKc9 ht hvm hu
  generalize H1 = H at hP hS ⊢
  have hP : va_P (dC, dI) vwCl (((CWx a k (cN (mCell Ls xs 1)) (cL (mCell Ls xs 0)) 0 (-1) (-1) 0 0 0 0 0 0 0 0 0 0 0 0 (fun _ => 0) (hoF 256) (roF 4) (fun _ => 0) rs) ++ (MWl ga gk 0 (cL (mCell Ls xs 0)) (cN (mCell Ls xs 1)) (fun _ => 0) 0 (roF 4) (hoF 256) 0 0 0 (fun _ => 0) (fun _ => 0) (fun _ => 0) (fun _ => 0) (fun _ => 0) (fun _ => 0) (fun _ => 0) (-1) (-1) 0 0 0 0 0 0 0 0 0 0 (fun _ => 0))) ++ (va_pl LP (CEf (fun _ _ => 0)))) H := hP
  have hD : va_D (fun q : Nat => s.heap.size ≤ q) (((CWx a k (cN (mCell Ls xs 1)) (cL (mCell Ls xs 0)) 0 (-1) (-1) 0 0 0 0 0 0 0 0 0 0 0 0 (fun _ => 0) (hoF 256) (roF 4) (fun _ => 0) rs) ++ (MWl ga gk 0 (cL (mCell Ls xs 0)) (cN (mCell Ls xs 1)) (fun _ => 0) 0 (roF 4) (hoF 256) 0 0 0 (fun _ => 0) (fun _ => 0) (fun _ => 0) (fun _ => 0) (fun _ => 0) (fun _ => 0) (fun _ => 0) (-1) (-1) 0 0 0 0 0 0 0 0 0 0 (fun _ => 0))) ++ (va_pl LP (CEf (fun _ _ => 0)))) := hD
  have hK : va_K (dC, dI) vwCl ([(k 0, .long), (k 1, .int), (k 2, .int), (k 3, .object "PageRows$Entry"), (k 4, .int)] ++ [(gk 0, .long), (gk 1, .int), (gk 2, .int), (gk 3, .int), (gk 4, .int), (gk 5, .int), (gk 6, .int), (gk 7, .int), (gk 8, .int), (gk 9, .boolean), (gk 10, .int)]) s := hK
  refine W.widen (k := 53) (n := 9300) (Nat.le_of_ble_eq_true rfl) (Nat.le_of_ble_eq_true rfl) ?_
  refine lv_astore_n (lv' := [(2, .ref (ga 0)), (1, .ref (a 0)), (0, .ref b)]) hx hb dL_law_35 rfl hl (by decide) rfl (fun ls hl => ?_)
  refine lv_iconst (v := 1) hx hb dL_law_36 (by decide) ?_
  refine va_newa (atype := .long) (N' := 1) (a0 := (1, .inr (.inl (fun _ => 0)))) (ty := .long) (n := 1) hx hb (hta _ aw_77) rfl hK hP hD hS hA (fun _ => rfl) (by decide) (by decide) (by decide) (Nat.le_of_ble_eq_true rfl) (Nat.le_of_ble_eq_true rfl) dL_law_37 (fun o ko H hK hP hD hS => ?_)
  have hP := va_P.swap hP
  have hD := va_D.swap hD
  have hP := va_P.part (cx := (MWl ga gk 0 (cL (mCell Ls xs 0)) (cN (mCell Ls xs 1)) (fun _ => 0) 0 (roF 4) (hoF 256) 0 0 0 (fun _ => 0) (fun _ => 0) (fun _ => 0) (fun _ => 0) (fun _ => 0) (fun _ => 0) (fun _ => 0) (-1) (-1) 0 0 0 0 0 0 0 0 0 0 (fun _ => 0)) ++ (OWx o ko (fun _ => 0) a k (cN (mCell Ls xs 1)) (cL (mCell Ls xs 0)) 0 (-1) (-1) 0 0 0 0 0 0 0 0 0 0 0 0 (fun _ => 0) (hoF 256) (roF 4) (fun _ => 0) rs)) hP [9, 10, 11, 12, 13, 14, 15, 16, 17, 18, 19, 20, 21, 0, 1, 2, 3, 4, 5, 6, 7, 8] rfl
  have hD := va_D.part (cx := (MWl ga gk 0 (cL (mCell Ls xs 0)) (cN (mCell Ls xs 1)) (fun _ => 0) 0 (roF 4) (hoF 256) 0 0 0 (fun _ => 0) (fun _ => 0) (fun _ => 0) (fun _ => 0) (fun _ => 0) (fun _ => 0) (fun _ => 0) (-1) (-1) 0 0 0 0 0 0 0 0 0 0 (fun _ => 0)) ++ (OWx o ko (fun _ => 0) a k (cN (mCell Ls xs 1)) (cL (mCell Ls xs 0)) 0 (-1) (-1) 0 0 0 0 0 0 0 0 0 0 0 0 (fun _ => 0) (hoF 256) (roF 4) (fun _ => 0) rs)) hD [9, 10, 11, 12, 13, 14, 15, 16, 17, 18, 19, 20, 21, 0, 1, 2, 3, 4, 5, 6, 7, 8] (by decide) rfl
  have hK := hK.sub (tys' := ([(gk 0, .long), (gk 1, .int), (gk 2, .int), (gk 3, .int), (gk 4, .int), (gk 5, .int), (gk 6, .int), (gk 7, .int), (gk 8, .int), (gk 9, .boolean), (gk 10, .int)] ++ ((ko, .long) :: [(k 0, .long), (k 1, .int), (k 2, .int), (k 3, .object "PageRows$Entry"), (k 4, .int)]))) [5, 6, 7, 8, 9, 10, 11, 12, 13, 14, 15, 16, 0, 1, 2, 3, 4] rfl
  refine W.widen (k := 100 + 2) (n := 20000 + 6 * 2) (Nat.le_of_ble_eq_true rfl) (Nat.le_of_ble_eq_true rfl) ?_
  refine lv_astore_n (lv' := [(3, .ref o), (2, .ref (ga 0)), (1, .ref (a 0)), (0, .ref b)]) hx hb dL_law_39 rfl hl (by decide) rfl (fun ls hl => ?_)
  refine lv_iconst (v := 2) hx hb dL_law_40 (by decide) ?_
  refine lv_istore (lv' := [(4, .int 2), (3, .ref o), (2, .ref (ga 0)), (1, .ref (a 0)), (0, .ref b)]) hx hb dL_law_41 hl (by decide) rfl (fun ls hl => ?_)
  exact law_loop (p := p) (l := l) (e := e) (s := s) (m := m) (below := below) (meth := meth) (c := c) (dC := dC) (dI := dI) (b := b) (Ls := Ls) (xs := xs) (o := o) (ko := ko) (a := a) (k := k) (LP := LP) (N := cN (mCell Ls xs 1)) (L := cL (mCell Ls xs 0)) (ga := ga) (gk := gk) ⟨hx, hb, hr, hml, hown, hta, hX, hbl, hlocks, hN, hK, hXW, hXZ, hNc, hl9, hL⟩ (Ls + 1) 2 (by omega) (by omega) 0 0 (-1) (-1) 0 0 0 0 0 0 0 0 0 0 0 0 (fun _ => 0) (hoF 256) (roF 4) (fun _ => 0) rs (fun _ _ => 0) (fun _ => 0) 0 (fun _ => 0) (fun _ => 0) (fun _ => 0) (fun _ => 0) (fun _ => 0) (fun _ => 0) (fun _ => 0) 0 0 0 0 0 (fun _ => 0) H locs ls (by omega) (lrel0 (mCell Ls xs 0) (mCell Ls xs 1) hlen hnd hrs) hP hD hS (lv_sub hl [4, 3, 2, 1, 0] rfl)
