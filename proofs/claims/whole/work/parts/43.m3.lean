theorem goes_ok {L : Nat} {mm : Nat → Int64} {mh : Nat → Int32} {f8 ff fa : Int32} {mn : Nat} {wa : Nat → Int32} {p0 : Int32} {p1 : Nat} {p2 p3 r ff' fa' lg' : Int32} {mn' : Nat} {wa' : Nat → Int32} (h : (r, ff', fa', mn', lg', wa') = mX5_goes L mm mh f8 ff fa mn wa p0 p1 p2 p3) (hr : ¬ r = 0) : mn' = mn + 1 ∧ vp_in (wa' mn) 4096 := by
  unfold mX5_goes mX5_fails at h
  dsimp only at h
  by_cases h1 : 0 ≤ mX5_mapped mh f8 p0
  · rw [if_pos h1] at h
    by_cases h2 : mX5_mapped mh f8 p0 < (256 : Int32)
    · rw [if_pos h2] at h
      have key : vp_in (upd wa mn (((16 : Int32) * mX5_mapped mh f8 p0) + ((p2 >>> (((8 : Int32) + ((4 : Int32) * nI (L - 1 - p1))) &&& 31)) &&& (15 : Int32))) mn) 4096 := by
        rw [pk_us]
        exact cx_wordin2 h1 h2
      repeat' (split at h)
      all_goals (cases h; first | exact absurd rfl hr | exact ⟨rfl, key⟩)
    · rw [if_neg h2] at h
      cases h
      exact absurd rfl hr
  · rw [if_neg h1] at h
    cases h
    exact absurd rfl hr
/-- PageRowsModel.walks: at level l9, j levels left -/
def mWkL (L : Nat) (mm : Nat → Int64) (mh : Nat → Int32) (f8 p0 p1 : Int32) : Nat → Nat → Int32 → Int32 → Int32 → Nat → Int32 → Int32 → (Nat → Int32) → Int32 × Int32 × Int32 × Nat × Int32 × Int32 × (Nat → Int32)
  | 0, _, _, ff, fa, mn, lg, cm, wa => ((0 : Int32), ff, fa, mn, lg, cm, wa)
  | j + 1, l9, fr, ff, fa, mn, lg, cm, wa => match mX5_goes L mm mh f8 ff fa mn wa fr l9 p0 p1 with
    | (r, ff', fa', mn', lg', wa') => if r = 0 then ((0 : Int32), ff', fa', mn', lg', cm, wa')
      else if lg' < 0 then mWkL L mm mh f8 p0 p1 j (l9 + 1) (mX5_frameOf (mm (wa' (mn' - 1)).toNatClampNeg)) ff' fa' mn' lg' cm wa'
      else match mX5_ends L mh f8 ff' fa' cm (mX5_frameOf (mm (wa' (mn' - 1)).toNatClampNeg)) lg' p0 with
        | (r2, ff2, fa2, cm2) => (r2, ff2, fa2, mn', lg', cm2, wa')
def mWk (L : Nat) (mm : Nat → Int64) (f1 : Int32) (mr mh : Nat → Int32) (f8 fa lg cm : Int32) (wa : Nat → Int32) (p0 p1 : Int32) : Int32 × Int32 × Int32 × Nat × Int32 × Int32 × (Nat → Int32) :=
  if mX5_isOutside L p0 = 0 then mWkL L mm mh f8 p0 p1 L 0 (mr f1.toNatClampNeg) (0 : Int32) fa 0 lg cm wa
  else match mX5_fails (1 : Int32) (0 : Int32) with
    | (r, ff', fa') => (r, ff', fa', 0, lg, cm, wa)
theorem ends_z {L : Nat} {mh : Nat → Int32} {f8 ff fa cm p0 p1 p2 r ff' fa' cm' : Int32} (h : (r, ff', fa', cm') = mX5_ends L mh f8 ff fa cm p0 p1 p2) : narrow .boolean (.int r) = .int r := by
  unfold mX5_ends mX5_fails at h
  split at h
  · cases h; rfl
  · cases h; rfl

set_option maxHeartbeats 4000000 in
set_option maxRecDepth 100000 in
theorem c_X5_walks (l : Launch) (dC : Nat → ClassId) (dI : Nat → Nat → Nat) (ga : Nat → Nat) (gk : Nat → ClassId) (th : Int32) (L : Nat) (N : Nat) (mm : Nat → Int64) (f1 : Int32) (mr : Nat → Int32) (mh : Nat → Int32) (f8 : Int32) (en : Nat) (us : Nat) (eC : Nat → Int32) (eL : Nat → Int32) (eB : Nat → Int32) (eF : Nat → Int32) (eR : Nat → Int32) (eU : Nat → Int32) (eX : Nat → Int32) (f2 : Int32) (f3 : Int32) (f4 : Int32) (f5 : Int32) (f6 : Int32) (f7 : Int32) (f14 : Int32) (ff : Int32) (fa : Int32) (mn : Nat) (lg : Int32) (cm : Int32) (wa : Nat → Int32)  (sz : Nat) (p0 : Int32) (p1 : Int32) (hL1 : 1 ≤ L) (hL4 : L ≤ 4) (hf1 : vp_in f1 4) : Met l yX5_walks (wX5_walks :: AW) ({ frames := 3, cells := 0, slots := 0, locals := 72 }) (va_Pc [.ref (ga 0), .int p0, .int p1] (CPrQ dC dI (MWl ga gk th L N mm f1 mr mh f8 en us eC eL eB eF eR eU eX f2 f3 f4 f5 f6 f7 f14 ff fa mn lg cm wa) [(gk 0, .long), (gk 1, .int), (gk 2, .int), (gk 3, .int), (gk 4, .int), (gk 5, .int), (gk 6, .int), (gk 7, .int), (gk 8, .int), (gk 9, .boolean), (gk 10, .int)] sz)) (va_Qi (fun (r : Int32) (u : Int32 × Int32 × Nat × Int32 × Int32 × (Nat → Int32)) => (r, u) = mWk L mm f1 mr mh f8 fa lg cm wa p0 p1) (fun (u : Int32 × Int32 × Nat × Int32 × Int32 × (Nat → Int32)) (t : State) => match u with | (ff', fa', mn', lg', cm', wa') => va_P (dC, dI) vwCl (MWl ga gk th L N mm f1 mr mh f8 en us eC eL eB eF eR eU eX f2 f3 f4 f5 f6 f7 f14 ff' fa' mn' lg' cm' wa') t.heap ∧ va_K (dC, dI) vwCl [(gk 0, .long), (gk 1, .int), (gk 2, .int), (gk 3, .int), (gk 4, .int), (gk 5, .int), (gk 6, .int), (gk 7, .int), (gk 8, .int), (gk 9, .boolean), (gk 10, .int)] t ∧ va_D (va_A (MWl ga gk th L N mm f1 mr mh f8 en us eC eL eB eF eR eU eX f2 f3 f4 f5 f6 f7 f14 ff fa mn lg cm wa) sz) (MWl ga gk th L N mm f1 mr mh f8 en us eC eL eB eF eR eU eX f2 f3 f4 f5 f6 f7 f14 ff' fa' mn' lg' cm' wa')) (va_A (MWl ga gk th L N mm f1 mr mh f8 en us eC eL eB eF eR eU eX f2 f3 f4 f5 f6 f7 f14 ff fa mn lg cm wa) sz)) 0 0 (va_A (MWl ga gk th L N mm f1 mr mh f8 en us eC eL eB eF eR eU eX f2 f3 f4 f5 f6 f7 f14 ff fa mn lg cm wa) sz) := by
  refine cx_of (cc := cX5_walks) (maxL := 5) (ret := some .boolean) (by decide) rfl (Nat.le_of_ble_eq_true rfl) ?_
  intro p e s m below meth c ls hx hb hr hts hown hlocks hml hnm hl hB
  have hta : ∀ w ∈ AW, w.before [.ref (ga 0), .int p0, .int p1].toArray s = true := fun w h => hts w (List.mem_cons_of_mem _ h)
  have hl : lv_has ls 5 [(0, .ref (ga 0)), (1, .int p0), (2, .int p1)] := hl
  have hown : s.vm.findClass RX5 = some m.cls := hown
  obtain ⟨rfl, ⟨hP, hK, hN⟩, hD0⟩ := hB
  have hD := hD0.self (sz := s.heap.size)
  generalize hAe : va_A (MWl ga gk th L N mm f1 mr mh f8 en us eC eL eB eF eR eU eX f2 f3 f4 f5 f6 f7 f14 ff fa mn lg cm wa) s.heap.size = A at hD ⊢
  have hA : ∀ q : Nat, s.heap.size ≤ q → A q := fun q h => by rw [← hAe]; exact Or.inr h
  have hS : va_S A s.heap s.heap [] := va_S.rf
  have loop : ∀ (j l9 : Nat) (fr ff1 fa1 lg1 cm1 : Int32) (wa1 : Nat → Int32), l9 + j = L → mWk L mm f1 mr mh f8 fa lg cm wa p0 p1 = mWkL L mm mh f8 p0 p1 j l9 fr ff1 fa1 l9 lg1 cm1 wa1 → ∀ (H : Heap) (locs : List Loc), va_P (dC, dI) vwCl (MWl ga gk th L N mm f1 mr mh f8 en us eC eL eB eF eR eU eX f2 f3 f4 f5 f6 f7 f14 ff1 fa1 l9 lg1 cm1 wa1) H → va_D A (MWl ga gk th L N mm f1 mr mh f8 en us eC eL eB eF eR eU eX f2 f3 f4 f5 f6 f7 f14 ff1 fa1 l9 lg1 cm1 wa1) → va_S A s.heap H locs → ∀ (ls : Array Slot), lv_has ls 5 [(4, .int (nI l9)), (3, .int fr), (0, .ref (ga 0)), (1, .int p0), (2, .int p1)] → W p l e ({ frames := 3, cells := 0, slots := 0, locals := 72 }) s m [.ref (ga 0), .int p0, .int p1].toArray below meth c H locs 0 0 (MQ below (va_Qi (fun (r : Int32) (u : Int32 × Int32 × Nat × Int32 × Int32 × (Nat → Int32)) => (r, u) = mWk L mm f1 mr mh f8 fa lg cm wa p0 p1) (fun (u : Int32 × Int32 × Nat × Int32 × Int32 × (Nat → Int32)) (t : State) => match u with | (ff', fa', mn', lg', cm', wa') => va_P (dC, dI) vwCl (MWl ga gk th L N mm f1 mr mh f8 en us eC eL eB eF eR eU eX f2 f3 f4 f5 f6 f7 f14 ff' fa' mn' lg' cm' wa') t.heap ∧ va_K (dC, dI) vwCl [(gk 0, .long), (gk 1, .int), (gk 2, .int), (gk 3, .int), (gk 4, .int), (gk 5, .int), (gk 6, .int), (gk 7, .int), (gk 8, .int), (gk 9, .boolean), (gk 10, .int)] t ∧ va_D A (MWl ga gk th L N mm f1 mr mh f8 en us eC eL eB eF eR eU eX f2 f3 f4 f5 f6 f7 f14 ff' fa' mn' lg' cm' wa')) A) [.ref (ga 0), .int p0, .int p1].toArray s 0 0 A) (F0 m 38 ls []) := by
    intro j
    induction j with
    | zero =>
      intro l9 fr ff1 fa1 lg1 cm1 wa1 hi hm H locs hP hD hS ls hl
      refine lv_iload hx hb dX5_walks_38 (lv_at hl 0 rfl) ?_
      refine lv_aload_n hx hb dX5_walks_40 rfl (lv_at hl 2 rfl) ?_
      refine va_get (D := (dC, dI)) (ci := 5) (v := .int (nI L)) (C := RX5) (T := TX5) (N := 30) hx hb hta inA_X5 hown hK hP 0 rfl rfl 1 (by decide) (hta _ aw_512) (fun _ h9 => h9) rfl dX5_walks_41 ?_
      refine lv_icmp_ge (tgt := 105) hx hb dX5_walks_44 (by decide) (fun c_44_3 => ?_) (fun c_44_3 => ?_)
      · refine lv_iconst (v := 0) hx hb dX5_walks_105 (by decide) ?_
        exact W.zret (ty := .boolean) (v := (0 : Int32)) hx hb hr rfl (fun t9 ht hW => ⟨⟨(0 : Int32), (ff1, fa1, l9, lg1, cm1, wa1), rfl, (by rw [hm]; rfl), by rw [ht]; exact hP, va_K.moved hW.alike hK, hD⟩, hS.F ht⟩) hS.2.2 dX5_walks_106
      · exact absurd (nI_le (by omega) (by omega)) c_44_3
    | succ j ih =>
      intro l9 fr ff1 fa1 lg1 cm1 wa1 hi hm H locs hP hD hS ls hl
      refine lv_iload hx hb dX5_walks_38 (lv_at hl 0 rfl) ?_
      refine lv_aload_n hx hb dX5_walks_40 rfl (lv_at hl 2 rfl) ?_
      refine va_get (D := (dC, dI)) (ci := 5) (v := .int (nI L)) (C := RX5) (T := TX5) (N := 30) hx hb hta inA_X5 hown hK hP 0 rfl rfl 1 (by decide) (hta _ aw_512) (fun _ h9 => h9) rfl dX5_walks_41 ?_
      refine lv_icmp_ge (tgt := 105) hx hb dX5_walks_44 (by decide) (fun c_44_4 => ?_) (fun c_44_4 => ?_)
      · exact absurd c_44_4 (nI_ge (by omega) (by omega))
      · refine lv_aload_n hx hb dX5_walks_47 rfl (lv_at hl 2 rfl) ?_
        refine lv_iload_n hx hb dX5_walks_48 rfl (lv_at hl 1 rfl) ?_
        refine lv_iload hx hb dX5_walks_49 (lv_at hl 0 rfl) ?_
        refine lv_iload_n hx hb dX5_walks_51 rfl (lv_at hl 3 rfl) ?_
        refine lv_iload_n hx hb dX5_walks_52 rfl (lv_at hl 4 rfl) ?_
        have hFc : ∀ q, va_A (MWl ga gk th L N mm f1 mr mh f8 en us eC eL eB eF eR eU eX f2 f3 f4 f5 f6 f7 f14 ff1 fa1 l9 lg1 cm1 wa1) H.size q → A q := cx_free hD hS hA
        refine va_calli (va_runV (As := [.int fr, .int (nI l9), .int p0, .int p1]) (rest := []) ⟨hx, hb, hml, hown, hta⟩ (c_X5_goes l dC dI ga gk th L N mm f1 mr mh f8 en us eC eL eB eF eR eU eX f2 f3 f4 f5 f6 f7 f14 ff1 fa1 l9 lg1 cm1 wa1 H.size fr l9 p0 p1 hL1 hL4 (by omega) (by omega)) (cwV 4 hta (gV aw_689 aw_691 aw_31 aw_43 aw_692) rfl rfl rfl (by decide +kernel) ⟨Nat.le_of_ble_eq_true rfl, Nat.le_of_ble_eq_true rfl⟩) (cx_preVQ hK hP hN (va_recv hK hP (ci := 5) (q0 := 0) rfl rfl) hD) rfl rfl hl.1 rfl (lv_room (Nat.le_of_ble_eq_true rfl)) dX5_walks_53 ⟨Nat.le_of_ble_eq_true rfl, Nat.le_of_ble_eq_true rfl⟩) hS (fun q _ h => hFc q h) hFc (fun r_6 u t9 H1 locs ht hvm hw_6 hB hz1 hk1 hS => ?_)
        obtain ⟨ff_6, fa_6, mn_6, lg_6, wa_6⟩ := u
        obtain ⟨hP, hK1, hD1⟩ := hB
        rw [ht] at hP
        have hD := hD1.weaken (fun _ _ _ h => hFc _ h)
        clear hFc hz1 hk1 hK1 hD1 ht hvm
        generalize H1 = H at hP hS ⊢
        have hP : va_P (dC, dI) vwCl (MWl ga gk th L N mm f1 mr mh f8 en us eC eL eB eF eR eU eX f2 f3 f4 f5 f6 f7 f14 ff_6 fa_6 mn_6 lg_6 cm1 wa_6) H := hP
        have hD : va_D A (MWl ga gk th L N mm f1 mr mh f8 en us eC eL eB eF eR eU eX f2 f3 f4 f5 f6 f7 f14 ff_6 fa_6 mn_6 lg_6 cm1 wa_6) := hD
        refine lv_if_ne (tgt := 61) hx hb dX5_walks_56 (by decide) (fun c_56_6 => ?_) (fun c_56_6 => ?_)
        · obtain ⟨hmn9, hwa9⟩ := goes_ok hw_6 c_56_6
          have hwb9 : vp_in (wa_6 (mn_6 - 1)) 4096 := by rw [hmn9]; exact hwa9
          refine lv_aload_n hx hb dX5_walks_61 rfl (lv_at hl 2 rfl) ?_
          refine va_get (D := (dC, dI)) (ci := 5) (v := .ref (ga 1)) (C := RX5) (T := TX5) (N := 30) hx hb hta inA_X5 hown hK hP 0 rfl rfl 3 (by decide) (hta _ aw_514) (fun _ h9 => h9) rfl dX5_walks_62 ?_
          refine lv_aload_n hx hb dX5_walks_65 rfl (lv_at hl 2 rfl) ?_
          refine va_get (D := (dC, dI)) (ci := 5) (v := .ref (ga 11)) (C := RX5) (T := TX5) (N := 30) hx hb hta inA_X5 hown hK hP 0 rfl rfl 29 (by decide) (hta _ aw_540) (fun _ h9 => h9) rfl dX5_walks_66 ?_
          refine lv_aload_n hx hb dX5_walks_69 rfl (lv_at hl 2 rfl) ?_
          refine va_get (D := (dC, dI)) (ci := 5) (v := .int (nI mn_6)) (C := RX5) (T := TX5) (N := 30) hx hb hta inA_X5 hown hK hP 0 rfl rfl 26 (by decide) (hta _ aw_537) (fun _ h9 => h9) rfl dX5_walks_70 ?_
          refine lv_iconst (v := 1) hx hb dX5_walks_73 (by decide) ?_
          refine lv_isub hx hb dX5_walks_74 ?_
          rw [show (nI mn_6) - (1 : Int32) = nI (mn_6 - 1) from pk_sub (show 1 ≤ mn_6 by omega)]
          refine va_iald hx hb hK hP 11 10 rfl rfl (vp_in_nI (by omega) (by omega)) dX5_walks_75 ?_
          rw [nI_clamp (show (mn_6 - 1) < 2 ^ 31 by omega)]
          refine va_lald hx hb hK hP 1 0 rfl rfl hwb9 dX5_walks_76 ?_
          refine cx_callSi (va_runS (As := [.long (mm (wa_6 (mn_6 - 1)).toNatClampNeg)]) (rest := []) ⟨hx, hb, hml, hown, hta⟩ (c_X5_frameOf l (mm (wa_6 (mn_6 - 1)).toNatClampNeg)) (va_cwS 1 hta (gS aw_694 aw_695 aw_43 aw_696) rfl rfl rfl (by decide +kernel) ⟨Nat.le_of_ble_eq_true rfl, Nat.le_of_ble_eq_true rfl⟩) cx_pre0 rfl rfl hl.1 rfl (lv_room (Nat.le_of_ble_eq_true rfl)) dX5_walks_77 ⟨Nat.le_of_ble_eq_true rfl, Nat.le_of_ble_eq_true rfl⟩) (fun r hw_8 => ?_)
          subst hw_8
          refine lv_istore_n (lv' := [(3, .int (mX5_frameOf (mm (wa_6 (mn_6 - 1)).toNatClampNeg))), (4, .int (nI l9)), (0, .ref (ga 0)), (1, .int p0), (2, .int p1)]) hx hb dX5_walks_80 rfl hl (by decide) rfl (fun ls hl => ?_)
          refine lv_aload_n hx hb dX5_walks_81 rfl (lv_at hl 2 rfl) ?_
          refine va_get (D := (dC, dI)) (ci := 5) (v := .int lg_6) (C := RX5) (T := TX5) (N := 30) hx hb hta inA_X5 hown hK hP 0 rfl rfl 27 (by decide) (hta _ aw_538) (fun _ h9 => h9) rfl dX5_walks_82 ?_
          refine lv_if_lt (tgt := 99) hx hb dX5_walks_85 (by decide) (fun c_85_8 => ?_) (fun c_85_8 => ?_)
          · refine lv_iinc (v := nI (l9 + 1)) (lv' := [(4, .int (nI (l9 + 1))), (3, .int (mX5_frameOf (mm (wa_6 (mn_6 - 1)).toNatClampNeg))), (0, .ref (ga 0)), (1, .int p0), (2, .int p1)]) hx hb dX5_walks_99 hl (k := 1) rfl (cx_inc l9 1 rfl) (by decide) rfl (fun ls hl => ?_)
            refine lv_goto (tgt := 38) hx hb dX5_walks_102 (by decide) ?_
            subst hmn9
            exact ih (l9 + 1) _ _ _ _ _ _ (by omega) (by rewrite [hm, mWkL]; rewrite [← hw_6]; (try dsimp only); rewrite [if_neg c_56_6]; rewrite [if_pos c_85_8]; (first | done | rfl)) H locs hP hD hS ls (lv_sub hl [0, 1, 2, 3, 4] rfl)
          · refine lv_aload_n hx hb dX5_walks_88 rfl (lv_at hl 2 rfl) ?_
            refine lv_iload_n hx hb dX5_walks_89 rfl (lv_at hl 0 rfl) ?_
            refine lv_aload_n hx hb dX5_walks_90 rfl (lv_at hl 2 rfl) ?_
            refine va_get (D := (dC, dI)) (ci := 5) (v := .int lg_6) (C := RX5) (T := TX5) (N := 30) hx hb hta inA_X5 hown hK hP 0 rfl rfl 27 (by decide) (hta _ aw_538) (fun _ h9 => h9) rfl dX5_walks_91 ?_
            refine lv_iload_n hx hb dX5_walks_94 rfl (lv_at hl 3 rfl) ?_
            have hFc : ∀ q, va_A (MWl ga gk th L N mm f1 mr mh f8 en us eC eL eB eF eR eU eX f2 f3 f4 f5 f6 f7 f14 ff_6 fa_6 mn_6 lg_6 cm1 wa_6) H.size q → A q := cx_free hD hS hA
            refine va_calli (va_runV (As := [.int (mX5_frameOf (mm (wa_6 (mn_6 - 1)).toNatClampNeg)), .int lg_6, .int p0]) (rest := []) ⟨hx, hb, hml, hown, hta⟩ (c_X5_ends l dC dI ga gk th L N mm f1 mr mh f8 en us eC eL eB eF eR eU eX f2 f3 f4 f5 f6 f7 f14 ff_6 fa_6 mn_6 lg_6 cm1 wa_6 H.size (mX5_frameOf (mm (wa_6 (mn_6 - 1)).toNatClampNeg)) lg_6 p0) (cwV 3 hta (gV aw_670 aw_672 aw_27 aw_43 aw_673) rfl rfl rfl (by decide +kernel) ⟨Nat.le_of_ble_eq_true rfl, Nat.le_of_ble_eq_true rfl⟩) (cx_preVQ hK hP hN (va_recv hK hP (ci := 5) (q0 := 0) rfl rfl) hD) rfl rfl hl.1 rfl (lv_room (Nat.le_of_ble_eq_true rfl)) dX5_walks_95 ⟨Nat.le_of_ble_eq_true rfl, Nat.le_of_ble_eq_true rfl⟩) hS (fun q _ h => hFc q h) hFc (fun r_10 u t9 H1 locs ht hvm hw_10 hB hz1 hk1 hS => ?_)
            obtain ⟨ff_10, fa_10, cm_10⟩ := u
            obtain ⟨hP, hK1, hD1⟩ := hB
            rw [ht] at hP
            have hD := hD1.weaken (fun _ _ _ h => hFc _ h)
            clear hFc hz1 hk1 hK1 hD1 ht hvm
            generalize H1 = H at hP hS ⊢
            have hP : va_P (dC, dI) vwCl (MWl ga gk th L N mm f1 mr mh f8 en us eC eL eB eF eR eU eX f2 f3 f4 f5 f6 f7 f14 ff_10 fa_10 mn_6 lg_6 cm_10 wa_6) H := hP
            have hD : va_D A (MWl ga gk th L N mm f1 mr mh f8 en us eC eL eB eF eR eU eX f2 f3 f4 f5 f6 f7 f14 ff_10 fa_10 mn_6 lg_6 cm_10 wa_6) := hD
            have hze : narrow .boolean (.int r_10) = .int r_10 := ends_z hw_10
            exact W.zret (ty := .boolean) (v := r_10) hx hb hr hze (fun t9 ht hW => ⟨⟨r_10, (ff_10, fa_10, mn_6, lg_6, cm_10, wa_6), rfl, (by rewrite [hm, mWkL]; rewrite [← hw_6]; (try dsimp only); rewrite [if_neg c_56_6]; rewrite [if_neg c_85_8]; rewrite [← hw_10]; (try dsimp only); (first | done | rfl)), by rw [ht]; exact hP, va_K.moved hW.alike hK, hD⟩, hS.F ht⟩) hS.2.2 dX5_walks_98
        · refine lv_iconst (v := 0) hx hb dX5_walks_59 (by decide) ?_
          exact W.zret (ty := .boolean) (v := (0 : Int32)) hx hb hr rfl (fun t9 ht hW => ⟨⟨(0 : Int32), (ff_6, fa_6, mn_6, lg_6, cm1, wa_6), rfl, (by rewrite [hm, mWkL]; rewrite [← hw_6]; (try dsimp only); rewrite [if_pos c_56_6]; (first | done | rfl)), by rw [ht]; exact hP, va_K.moved hW.alike hK, hD⟩, hS.F ht⟩) hS.2.2 dX5_walks_60
  refine lv_aload_n hx hb dX5_walks_0 rfl (lv_at hl 0 rfl) ?_
  refine lv_iconst (v := 0) hx hb dX5_walks_1 (by decide) ?_
  refine va_put (D := (dC, dI)) (ci := 5) (v := .int (0 : Int32)) (ty := .int) (C := RX5) (T := TX5) (N := 30) hx hb hta inA_X5 tyX5 tyX5_ok nmX5 hown hK hP hD hS 0 rfl rfl 24 (by decide) (hta _ aw_535) (fun _ h9 => h9) rfl (by decide +kernel) rfl rfl (Nat.le_of_ble_eq_true rfl) dX5_walks_2 (fun H locs hP hD hS => ?_)
  have hP : va_P (dC, dI) vwCl (MWl ga gk th L N mm f1 mr mh f8 en us eC eL eB eF eR eU eX f2 f3 f4 f5 f6 f7 f14 (0 : Int32) fa mn lg cm wa) H := hP
  have hD : va_D A (MWl ga gk th L N mm f1 mr mh f8 en us eC eL eB eF eR eU eX f2 f3 f4 f5 f6 f7 f14 (0 : Int32) fa mn lg cm wa) := hD
  refine lv_aload_n hx hb dX5_walks_5 rfl (lv_at hl 0 rfl) ?_
  refine lv_iconst (v := 0) hx hb dX5_walks_6 (by decide) ?_
  refine va_put (D := (dC, dI)) (ci := 5) (v := .int (0 : Int32)) (ty := .int) (C := RX5) (T := TX5) (N := 30) hx hb hta inA_X5 tyX5 tyX5_ok nmX5 hown hK hP hD hS 0 rfl rfl 26 (by decide) (hta _ aw_537) (fun _ h9 => h9) rfl (by decide +kernel) rfl rfl (Nat.le_of_ble_eq_true rfl) dX5_walks_7 (fun H locs hP hD hS => ?_)
  have hP : va_P (dC, dI) vwCl (MWl ga gk th L N mm f1 mr mh f8 en us eC eL eB eF eR eU eX f2 f3 f4 f5 f6 f7 f14 (0 : Int32) fa 0 lg cm wa) H := hP
  have hD : va_D A (MWl ga gk th L N mm f1 mr mh f8 en us eC eL eB eF eR eU eX f2 f3 f4 f5 f6 f7 f14 (0 : Int32) fa 0 lg cm wa) := hD
  refine lv_aload_n hx hb dX5_walks_10 rfl (lv_at hl 0 rfl) ?_
  refine lv_iload_n hx hb dX5_walks_11 rfl (lv_at hl 1 rfl) ?_
  refine cx_callSi (va_runV (As := [.int p0]) (rest := []) ⟨hx, hb, hml, hown, hta⟩ (c_X5_isOutside l dC dI ga gk th L N mm f1 mr mh f8 en us eC eL eB eF eR eU eX f2 f3 f4 f5 f6 f7 f14 (0 : Int32) fa 0 lg cm wa p0) (cwV 1 hta (gV aw_643 aw_645 aw_21 aw_43 aw_646) rfl rfl rfl (by decide +kernel) ⟨Nat.le_of_ble_eq_true rfl, Nat.le_of_ble_eq_true rfl⟩) (cx_preVS hK hP hN (va_recv hK hP (ci := 5) (q0 := 0) rfl rfl)) rfl rfl hl.1 rfl (lv_room (Nat.le_of_ble_eq_true rfl)) dX5_walks_12 ⟨Nat.le_of_ble_eq_true rfl, Nat.le_of_ble_eq_true rfl⟩) (fun r hw_1 => ?_)
  subst hw_1
  refine lv_if_eq (tgt := 25) hx hb dX5_walks_15 (by decide) (fun c_15_1 => ?_) (fun c_15_1 => ?_)
  · refine lv_aload_n hx hb dX5_walks_25 rfl (lv_at hl 0 rfl) ?_
    refine va_get (D := (dC, dI)) (ci := 5) (v := .ref (ga 2)) (C := RX5) (T := TX5) (N := 30) hx hb hta inA_X5 hown hK hP 0 rfl rfl 5 (by decide) (hta _ aw_516) (fun _ h9 => h9) rfl dX5_walks_26 ?_
    refine lv_aload_n hx hb dX5_walks_29 rfl (lv_at hl 0 rfl) ?_
    refine va_get (D := (dC, dI)) (ci := 5) (v := .int f1) (C := RX5) (T := TX5) (N := 30) hx hb hta inA_X5 hown hK hP 0 rfl rfl 4 (by decide) (hta _ aw_515) (fun _ h9 => h9) rfl dX5_walks_30 ?_
    refine va_iald hx hb hK hP 2 1 rfl rfl hf1 dX5_walks_33 ?_
    refine lv_istore_n (lv' := [(3, .int (mr f1.toNatClampNeg)), (0, .ref (ga 0)), (1, .int p0), (2, .int p1)]) hx hb dX5_walks_34 rfl hl (by decide) rfl (fun ls hl => ?_)
    refine lv_iconst (v := 0) hx hb dX5_walks_35 (by decide) ?_
    refine lv_istore (lv' := [(4, .int (0 : Int32)), (3, .int (mr f1.toNatClampNeg)), (0, .ref (ga 0)), (1, .int p0), (2, .int p1)]) hx hb dX5_walks_36 hl (by decide) rfl (fun ls hl => ?_)
    exact loop L 0 _ _ _ _ _ _ (by omega) (by unfold mWk; rewrite [if_pos c_15_1]; rfl) H locs hP hD hS ls (lv_sub hl [0, 1, 2, 3, 4] rfl)
  · refine lv_aload_n hx hb dX5_walks_18 rfl (lv_at hl 0 rfl) ?_
    refine lv_iconst (v := 1) hx hb dX5_walks_19 (by decide) ?_
    refine lv_iconst (v := 0) hx hb dX5_walks_20 (by decide) ?_
    have hFc : ∀ q, va_A (MWl ga gk th L N mm f1 mr mh f8 en us eC eL eB eF eR eU eX f2 f3 f4 f5 f6 f7 f14 (0 : Int32) fa 0 lg cm wa) H.size q → A q := cx_free hD hS hA
    refine va_calli (va_runV (As := [.int (1 : Int32), .int (0 : Int32)]) (rest := []) ⟨hx, hb, hml, hown, hta⟩ (c_X5_fails l dC dI ga gk th L N mm f1 mr mh f8 en us eC eL eB eF eR eU eX f2 f3 f4 f5 f6 f7 f14 (0 : Int32) fa 0 lg cm wa H.size (1 : Int32) (0 : Int32)) (cwV 2 hta (gV aw_666 aw_668 aw_26 aw_43 aw_669) rfl rfl rfl (by decide +kernel) ⟨Nat.le_of_ble_eq_true rfl, Nat.le_of_ble_eq_true rfl⟩) (cx_preVQ hK hP hN (va_recv hK hP (ci := 5) (q0 := 0) rfl rfl) hD) rfl rfl hl.1 rfl (lv_room (Nat.le_of_ble_eq_true rfl)) dX5_walks_21 ⟨Nat.le_of_ble_eq_true rfl, Nat.le_of_ble_eq_true rfl⟩) hS (fun q _ h => hFc q h) hFc (fun r_3 u t9 H1 locs ht hvm hw_3 hB hz1 hk1 hS => ?_)
    obtain ⟨ff_3, fa_3⟩ := u
    obtain ⟨hP, hK1, hD1⟩ := hB
    rw [ht] at hP
    have hD := hD1.weaken (fun _ _ _ h => hFc _ h)
    clear hFc hz1 hk1 hK1 hD1 ht hvm
    generalize H1 = H at hP hS ⊢
    have hP : va_P (dC, dI) vwCl (MWl ga gk th L N mm f1 mr mh f8 en us eC eL eB eF eR eU eX f2 f3 f4 f5 f6 f7 f14 ff_3 fa_3 0 lg cm wa) H := hP
    have hD : va_D A (MWl ga gk th L N mm f1 mr mh f8 en us eC eL eB eF eR eU eX f2 f3 f4 f5 f6 f7 f14 ff_3 fa_3 0 lg cm wa) := hD
    have hzf : narrow .boolean (.int r_3) = .int r_3 := by have := hw_3; unfold mX5_fails at this; cases this; rfl
    exact W.zret (ty := .boolean) (v := r_3) hx hb hr hzf (fun t ht hW => ⟨⟨r_3, (ff_3, fa_3, 0, lg, cm, wa), rfl, (by unfold mWk; rewrite [if_neg c_15_1]; rewrite [← hw_3]; (first | done | rfl)), by rw [ht]; exact hP, va_K.moved hW.alike hK, hD⟩, hS.F ht⟩) hS.2.2 dX5_walks_24
