set_option maxHeartbeats 4000000 in
set_option maxRecDepth 100000 in
theorem law_head {p : Program} {l : Launch} {e : Env} {s : State} {m : MethodId} {below : List Frame} {meth : Method} {c : Code} {dC : Nat → ClassId} {dI : Nat → Nat → Nat} {b Ls : Nat} {xs : Nat → Int32} {o : Nat} {ko : ClassId} {a : Nat → Nat} {k : Nat → ClassId} {LP : List Nat} {N L : Nat} {ga : Nat → Nat} {gk : Nat → ClassId} (C : LC p l e s m below meth c dC dI b Ls xs o ko a k LP N L ga gk) {i : Nat} (hi : i ≤ Ls + 4) (nx : i + 4 ≤ Ls → LoopAt p l e s m below meth c dC dI b Ls xs o ko a k LP N L ga gk (i + 4)) : LoopAt p l e s m below meth c dC dI b Ls xs o ko a k LP N L ga gk i := by
  intro th f1 f2 f3 f4 f5 f6 f7 f8 rd f10 f11 f12 n f14 lf wd ho ro pa rs E ov us eC eL eB eF eR eU eX ff fa mn lg cm wa H locs ls hus hrel hP hD hS hl
  obtain ⟨hx, hb, hr, hml, hown, hta, hX, hbl, hlocks, hN, hK, hXW, hXZ, hNc, hl9, hLs⟩ := id C
  have hbA : ¬ (fun q : Nat => s.heap.size ≤ q) b := Nat.not_le.mpr hbl
  refine lv_iload hx hb dL_law_43 (lv_at hl 4 rfl) ?_
  refine lv_aload_n hx hb dL_law_45 rfl (lv_at hl 0 rfl) ?_
  refine va_slen hx hb hX hbl hbA hS dL_law_46 ?_
  refine lv_iconst (v := 4) hx hb dL_law_47 (by decide) ?_
  refine lv_isub hx hb dL_law_48 ?_
  refine lv_icmp_gt (tgt := 900) hx hb dL_law_49 (by decide) (fun c_49_0 => ?_) (fun c_49_0 => ?_)
  · refine lv_iconst (v := 1) hx hb dL_law_900 (by decide) ?_
    refine va_forget (fun q hq => hS.2.2 q hq) ?_
    refine W.widen (k := 601024) (n := 7292999) (by omega) (by omega) ?_
    exact lw_ret hx hb hr hlocks dL_law_901
  · have hi4 := law_go hLs c_49_0 (by omega)
    refine lv_aload_n hx hb dL_law_52 rfl (lv_at hl 0 rfl) ?_
    refine lv_iload hx hb dL_law_53 (lv_at hl 4 rfl) ?_
    refine va_sld hx hb hX hbl hbA hS (vp_in_nI (show i < Ls by omega) (by omega)) dL_law_55 ?_
    rw [nI_clamp (show i < 2 ^ 31 by omega)]
    refine lv_bipush (v := 15) hx hb dL_law_56 (by decide) ?_
    refine lv_iand hx hb dL_law_58 ?_
    by_cases c_sw_0 : ((xs i) &&& (15 : Int32)) = 0
    · refine lv_tableIn (tgt := 128) hx hb dL_law_59 (by rw [c_sw_0]; decide) (by rw [c_sw_0]; decide) (by rw [c_sw_0]; rfl) (by decide) ?_
      exact law_table C hi4 (nx hi4) hus hrel hP hD hS hl
    · by_cases c_sw_1 : ((xs i) &&& (15 : Int32)) = 1
      · refine lv_tableIn (tgt := 227) hx hb dL_law_59 (by rw [c_sw_1]; decide) (by rw [c_sw_1]; decide) (by rw [c_sw_1]; rfl) (by decide) ?_
        exact law_word C hi4 (nx hi4) hus hrel hP hD hS hl
      · by_cases c_sw_2 : ((xs i) &&& (15 : Int32)) = 2
        · refine lv_tableIn (tgt := 282) hx hb dL_law_59 (by rw [c_sw_2]; decide) (by rw [c_sw_2]; decide) (by rw [c_sw_2]; rfl) (by decide) ?_
          exact law_context C hi4 (nx hi4) hus hrel hP hD hS hl
        · by_cases c_sw_3 : ((xs i) &&& (15 : Int32)) = 3
          · refine lv_tableIn (tgt := 338) hx hb dL_law_59 (by rw [c_sw_3]; decide) (by rw [c_sw_3]; decide) (by rw [c_sw_3]; rfl) (by decide) ?_
            exact law_root C hi4 (nx hi4) hus hrel hP hD hS hl
          · by_cases c_sw_4 : ((xs i) &&& (15 : Int32)) = 4
            · refine lv_tableIn (tgt := 406) hx hb dL_law_59 (by rw [c_sw_4]; decide) (by rw [c_sw_4]; decide) (by rw [c_sw_4]; rfl) (by decide) ?_
              exact law_host C hi4 (nx hi4) hus hrel hP hD hS hl
            · by_cases c_sw_5 : ((xs i) &&& (15 : Int32)) = 5
              · refine lv_tableIn (tgt := 474) hx hb dL_law_59 (by rw [c_sw_5]; decide) (by rw [c_sw_5]; decide) (by rw [c_sw_5]; rfl) (by decide) ?_
                exact law_hosts C hi4 (nx hi4) hus hrel hP hD hS hl
              · by_cases c_sw_6 : ((xs i) &&& (15 : Int32)) = 6
                · refine lv_tableIn (tgt := 515) hx hb dL_law_59 (by rw [c_sw_6]; decide) (by rw [c_sw_6]; decide) (by rw [c_sw_6]; rfl) (by decide) ?_
                  exact law_walk C hi4 (nx hi4) hus hrel hP hD hS hl
                · by_cases c_sw_7 : ((xs i) &&& (15 : Int32)) = 7
                  · refine lv_tableIn (tgt := 583) hx hb dL_law_59 (by rw [c_sw_7]; decide) (by rw [c_sw_7]; decide) (by rw [c_sw_7]; rfl) (by decide) ?_
                    exact law_to C hi4 (nx hi4) hus hrel hP hD hS hl
                  · by_cases c_sw_8 : ((xs i) &&& (15 : Int32)) = 8
                    · refine lv_tableIn (tgt := 596) hx hb dL_law_59 (by rw [c_sw_8]; decide) (by rw [c_sw_8]; decide) (by rw [c_sw_8]; rfl) (by decide) ?_
                      exact law_level C hi4 (nx hi4) hus hrel hP hD hS hl
                    · by_cases c_sw_9 : ((xs i) &&& (15 : Int32)) = 9
                      · refine lv_tableIn (tgt := 609) hx hb dL_law_59 (by rw [c_sw_9]; decide) (by rw [c_sw_9]; decide) (by rw [c_sw_9]; rfl) (by decide) ?_
                        exact law_plain C hi4 (nx hi4) hus hrel hP hD hS hl
                      · by_cases c_sw_10 : ((xs i) &&& (15 : Int32)) = 10
                        · refine lv_tableIn (tgt := 677) hx hb dL_law_59 (by rw [c_sw_10]; decide) (by rw [c_sw_10]; decide) (by rw [c_sw_10]; rfl) (by decide) ?_
                          exact law_flush C hi4 (nx hi4) hus hrel hP hD hS hl
                        · by_cases c_sw_11 : ((xs i) &&& (15 : Int32)) = 11
                          · refine lv_tableIn (tgt := 745) hx hb dL_law_59 (by rw [c_sw_11]; decide) (by rw [c_sw_11]; decide) (by rw [c_sw_11]; rfl) (by decide) ?_
                            exact law_kept C hi4 (nx hi4) hus hrel hP hD hS hl
                          · by_cases c_sw_12 : ((xs i) &&& (15 : Int32)) = 12
                            · refine lv_tableIn (tgt := 813) hx hb dL_law_59 (by rw [c_sw_12]; decide) (by rw [c_sw_12]; decide) (by rw [c_sw_12]; rfl) (by decide) ?_
                              exact law_stale C hi4 (nx hi4) hus hrel hP hD hS hl
                            · by_cases c_sw_13 : ((xs i) &&& (15 : Int32)) = 13
                              · refine lv_tableIn (tgt := 869) hx hb dL_law_59 (by rw [c_sw_13]; decide) (by rw [c_sw_13]; decide) (by rw [c_sw_13]; rfl) (by decide) ?_
                                exact law_count C hi4 (nx hi4) hus hrel hP hD hS hl
                              · refine lv_tableOut (tgt := 894) hx hb dL_law_59 (cx_swout (x := (xs i) &&& (15 : Int32)) 13 (by decide) (fun j hj => match j, hj with | 0, _ => c_sw_0 | 1, _ => c_sw_1 | 2, _ => c_sw_2 | 3, _ => c_sw_3 | 4, _ => c_sw_4 | 5, _ => c_sw_5 | 6, _ => c_sw_6 | 7, _ => c_sw_7 | 8, _ => c_sw_8 | 9, _ => c_sw_9 | 10, _ => c_sw_10 | 11, _ => c_sw_11 | 12, _ => c_sw_12 | 13, _ => c_sw_13 | q + 14, h => absurd h (by omega))) (by decide) ?_
                                refine lv_iinc (v := nI (i + 4)) (lv' := [(4, .int (nI (i + 4))), (0, .ref b), (1, .ref (a 0)), (2, .ref (ga 0)), (3, .ref o)]) hx hb dL_law_894 hl (k := 4) rfl (cx_inc i 4 rfl) (by decide) rfl (fun ls hl => ?_)
                                refine lv_goto (tgt := 43) hx hb dL_law_897 (by decide) ?_
                                refine W.widen (k := 100 + (i + 4)) (n := 20000 + 6 * (i + 4)) (by omega) (by omega) ?_
                                exact nx hi4 th f1 f2 f3 f4 f5 f6 f7 f8 rd f10 f11 f12 n f14 lf wd ho ro pa rs E ov us eC eL eB eF eR eU eX ff fa mn lg cm wa _ _ _ (by omega) hrel hP hD hS (lv_sub hl [1, 2, 3, 4, 0] rfl)
theorem law_loop {p : Program} {l : Launch} {e : Env} {s : State} {m : MethodId} {below : List Frame} {meth : Method} {c : Code} {dC : Nat → ClassId} {dI : Nat → Nat → Nat} {b Ls : Nat} {xs : Nat → Int32} {o : Nat} {ko : ClassId} {a : Nat → Nat} {k : Nat → ClassId} {LP : List Nat} {N L : Nat} {ga : Nat → Nat} {gk : Nat → ClassId} (C : LC p l e s m below meth c dC dI b Ls xs o ko a k LP N L ga gk) : ∀ (j i : Nat), Ls + 1 ≤ i + j → i ≤ Ls + 4 → LoopAt p l e s m below meth c dC dI b Ls xs o ko a k LP N L ga gk i
  | 0, i, h1, h2 => law_head C h2 (fun h => absurd h (by omega))
  | j + 1, i, h1, h2 => law_head C h2 (fun h => law_loop C j (i + 4) (by omega) (by omega))
