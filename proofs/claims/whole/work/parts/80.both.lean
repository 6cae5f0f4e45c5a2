/-! what holds of the class's state and the reference's between two calls, and that each call keeps it -/
def LREL (L N : Nat) (LP : List Nat) (f1 f8 : Int32) (ho ro : Nat → Int32) (n : Nat) (rs : Nat → Option Nat) (E : Nat → Nat → Int32) (us : Nat) (eC eL eB eF eR eU eX : Nat → Int32) : Prop :=
  (1 ≤ L ∧ L ≤ 4 ∧ 0 < N ∧ N ≤ 32) ∧ HB ho ∧ (∀ j, j < 4 → ∃ F, F < 256 ∧ ro j = nI F) ∧ vp_in f1 4 ∧ ZB f8 ∧ EREL N n LP rs E us (n, eC, eL, eB, eF, eR, eU, eX) ∧ (∀ a ∈ lsC n rs E, ELL L a) ∧ ∀ i, ZB (eX i)
theorem ZB_0 : ZB 0 := rfl
theorem ZB_1 : ZB 1 := rfl
theorem zb_drop {x : EST} {k : Nat} (h : ∀ i, ZB (x.2.2.2.2.2.2.2 i)) : ∀ i, ZB ((mDropT x k).2.2.2.2.2.2.2 i) := by
  obtain ⟨en, eC, eL, eB, eF, eR, eU, eX⟩ := x
  exact ZB_upd h (h _)
theorem zb_gDrop {mt : Int32 × Ent → Bool} : ∀ (k : Nat) (x : EST), (∀ i, ZB (x.2.2.2.2.2.2.2 i)) → ∀ i, ZB ((gDrop mt k x).2.2.2.2.2.2.2 i)
  | 0, _, h => h
  | k + 1, x, h => by
    unfold gDrop
    split
    · exact zb_gDrop k _ (zb_drop h)
    · exact zb_gDrop k _ h
theorem zb_K3 {c g bits : Int32} {lf : Int64} {us : Nat} {f14 : Int32} {x : EST} (h : ∀ i, ZB (x.2.2.2.2.2.2.2 i)) : ∀ i, ZB ((mK3 c g bits lf us f14 x).2.2.2.2.2.2.2.2.1 i) := by
  obtain ⟨en, eC, eL, eB, eF, eR, eU, eX⟩ := x
  refine ZB_upd h ?_
  split
  · exact ZB_0
  · exact ZB_1
theorem zb_keep {N : Nat} {c g bits : Int32} {lf : Int64} {us : Nat} {f14 : Int32} {k : Nat} {x : EST} (h : ∀ i, ZB (x.2.2.2.2.2.2.2 i)) : ∀ i, ZB ((mKeep N c g bits lf us f14 (mK1 c g bits k x)).2.2.2.2.2.2.2.2.1 i) := by
  unfold mKeep
  rw [mK1_drop]
  split
  · exact zb_K3 (zb_drop (zb_gDrop k x h))
  · exact zb_K3 (zb_gDrop k x h)
theorem zb_tab {L N : Nat} {mm : Nat → Int64} {f1 : Int32} {mr mh : Nat → Int32} {f8 : Int32} {en us : Nat} {eC eL eB eF eR eU eX : Nat → Int32} {f4 f5 f6 f7 f14 fa lg cm : Int32} {wa : Nat → Int32} {p0 p1 : Int32} (h : ∀ i, ZB (eX i)) : ∀ i, ZB ((mTab L N mm f1 mr mh f8 en us eC eL eB eF eR eU eX f4 f5 f6 f7 f14 fa lg cm wa p0 p1).2.2.2.2.2.2.2.2.2.2.2.1 i) := by
  unfold mTab
  generalize mWk L mm f1 mr mh f8 fa lg cm wa p0 p1 = Y
  obtain ⟨r, ff', fa', mn', lg', cm', wa'⟩ := Y
  dsimp only
  split
  · exact h
  · exact zb_keep (x := (en, eC, eL, eB, eF, eR, eU, eX)) h
theorem zb_walk {L N : Nat} {mm : Nat → Int64} {f1 : Int32} {mr mh : Nat → Int32} {f8 : Int32} {en us : Nat} {eC eL eB eF eR eU eX : Nat → Int32} {f2 f3 f4 f5 f6 f7 f14 ff fa : Int32} {mn : Nat} {lg cm : Int32} {wa : Nat → Int32} {p0 p1 : Int32} (h : ∀ i, ZB (eX i)) : ∀ i, ZB ((mX5_walk L N mm f1 mr mh f8 en us eC eL eB eF eR eU eX f2 f3 f4 f5 f6 f7 f14 ff fa mn lg cm wa p0 p1).2.2.2.2.2.2.2.2.2.2.2.1 i) := by
  rw [mX5_walk_eq]
  split
  · exact h
  · split
    · split
      · exact zb_tab h
      · split
        · exact zb_tab h
        · unfold mBy
          exact h
    · exact zb_tab h
section BOTH
variable {L N : Nat} {LP : List Nat} {f1 f8 : Int32} {ho ro : Nat → Int32} {n : Nat} {rs : Nat → Option Nat} {E : Nat → Nat → Int32} {us : Nat} {eC eL eB eF eR eU eX : Nat → Int32}
theorem LREL.root (h : LREL L N LP f1 f8 ho ro n rs E us eC eL eB eF eR eU eX) : ∃ F, F < 256 ∧ ro f1.toNatClampNeg = nI F := by
  obtain ⟨-, -, hR, h1, -⟩ := h
  have := vp_in_iff.mp h1
  refine hR _ ?_
  show f1.toInt.toNat < 4
  omega
theorem LREL.row (h : LREL L N LP f1 f8 ho ro n rs E us eC eL eB eF eR eU eX) : ∀ i, i < N → rs i = some (rowA rs i) ∧ rowA rs i ∈ LP := h.2.2.2.2.2.1.1.1
theorem LREL.le (h : LREL L N LP f1 f8 ho ro n rs E us eC eL eB eF eR eU eX) : n ≤ N := h.2.2.2.2.2.1.2.1
theorem updL_0 (ov : Nat → Int64) (v : Int64) : vp_updL ov 0 v 0 = v := if_pos rfl
theorem g_table {wd wd' mm' : Nat → Int64} {ov ov' : Nat → Int64} {p0 : Int32} {p1 : Int64} {k th' : Int32} {b : Int64} (hw : (k, ov', wd') = mL_table ov wd p0 p1) (hw2 : (b, th', mm') = mX5_table wd p0 p1) : th' = k ∧ (k = 0 → ov' 0 = b) ∧ mm' = wd' := by
  unfold mL_table mX4_table at hw
  unfold mX5_table mX5_isOf at hw2
  by_cases c1 : p0 < 0
  · rw [if_pos c1] at hw hw2
    cases hw; cases hw2
    exact ⟨rfl, fun h => absurd h (by decide), rfl⟩
  · rw [if_neg c1] at hw hw2
    by_cases c2 : p0 < (4096 : Int32)
    · rw [if_pos c2] at hw
      rw [if_neg (Int32.not_le.mpr c2), if_neg (show ¬ (1 : Int32) = 0 by decide)] at hw2
      cases hw; cases hw2
      exact ⟨rfl, fun _ => updL_0 _ _, rfl⟩
    · rw [if_neg c2] at hw
      rw [if_pos (Int32.not_lt.mp c2)] at hw2
      cases hw; cases hw2
      exact ⟨rfl, fun h => absurd h (by decide), rfl⟩
theorem g_word {wd : Nat → Int64} {ov ov' : Nat → Int64} {p0 : Int32} {k th' : Int32} {b : Int64} (hw : (k, ov') = mL_word ov wd p0) (hw2 : (b, th') = mX5_word wd p0) : th' = k ∧ (k = 0 → ov' 0 = b) := by
  unfold mL_word mX4_word at hw
  unfold mX5_word mX5_isOf at hw2
  by_cases c1 : p0 < 0
  · rw [if_pos c1] at hw hw2
    cases hw; cases hw2
    exact ⟨rfl, fun h => absurd h (by decide)⟩
  · rw [if_neg c1] at hw hw2
    by_cases c2 : p0 < (4096 : Int32)
    · rw [if_pos c2] at hw
      rw [if_neg (Int32.not_le.mpr c2), if_neg (show ¬ (1 : Int32) = 0 by decide)] at hw2
      cases hw; cases hw2
      exact ⟨rfl, fun _ => updL_0 _ _⟩
    · rw [if_neg c2] at hw
      rw [if_pos (Int32.not_lt.mp c2)] at hw2
      cases hw; cases hw2
      exact ⟨rfl, fun h => absurd h (by decide)⟩
theorem g_context (h : LREL L N LP f1 f8 ho ro n rs E us eC eL eB eF eR eU eX) {f1' g1 : Int32} {ov ov' : Nat → Int64} {p0 : Int32} {k th' b : Int32} (hw : (k, ov', f1') = mL_context ov f1 p0) (hw2 : (b, th', g1) = mX5_context f1 p0) : th' = k ∧ (k = 0 → ov' 0 = b.toInt64) ∧ g1 = f1' ∧ LREL L N LP f1' f8 ho ro n rs E us eC eL eB eF eR eU eX := by
  unfold mL_context mX4_context at hw
  unfold mX5_context mX5_isOf at hw2
  by_cases c1 : p0 < 0
  · rw [if_pos c1] at hw hw2
    cases hw; cases hw2
    exact ⟨rfl, fun h => absurd h (by decide), rfl, h⟩
  · rw [if_neg c1] at hw hw2
    by_cases c2 : p0 < (4 : Int32)
    · rw [if_pos c2] at hw
      rw [if_neg (Int32.not_le.mpr c2), if_neg (show ¬ (1 : Int32) = 0 by decide)] at hw2
      cases hw; cases hw2
      obtain ⟨a1, a2, a3, a4, a5⟩ := h
      exact ⟨rfl, fun _ => updL_0 _ _, rfl, a1, a2, a3, cx_inl c1 c2 rfl, a5⟩
    · rw [if_neg c2] at hw
      rw [if_pos (Int32.not_lt.mp c2)] at hw2
      cases hw; cases hw2
      exact ⟨rfl, fun h => absurd h (by decide), rfl, h⟩
theorem g_root (h : LREL L N LP f1 f8 ho ro n rs E us eC eL eB eF eR eU eX) {ro' mr' : Nat → Int32} {ov ov' : Nat → Int64} {p0 p1 : Int32} {k th' b : Int32} (hw : (k, ov', ro') = mL_root ov ro p0 p1) (hw2 : (b, th', mr') = mX5_root ro p0 p1) : th' = k ∧ (k = 0 → ov' 0 = b.toInt64) ∧ mr' = ro' ∧ LREL L N LP f1 f8 ho ro' n rs E us eC eL eB eF eR eU eX := by
  unfold mL_root mX4_root at hw
  unfold mX5_root mX5_isOf at hw2
  by_cases c1 : p0 < 0
  · rw [if_pos c1] at hw hw2
    rw [if_pos rfl] at hw2
    cases hw
    have e9 : (b, th', mr') = ((0 : Int32), (1 : Int32), ro) := by
      rw [hw2]
      repeat' split
      all_goals rfl
    cases e9
    exact ⟨rfl, fun h => absurd h (by decide), rfl, h⟩
  · rw [if_neg c1] at hw hw2
    by_cases c2 : p0 < (4 : Int32)
    · rw [if_pos c2] at hw
      rw [if_neg (Int32.not_le.mpr c2), if_neg (show ¬ (1 : Int32) = 0 by decide)] at hw2
      by_cases c3 : p1 < 0
      · rw [if_pos c3] at hw
        rw [if_pos c3, if_pos rfl] at hw2
        cases hw; cases hw2
        exact ⟨rfl, fun h => absurd h (by decide), rfl, h⟩
      · rw [if_neg c3] at hw
        rw [if_neg c3] at hw2
        by_cases c4 : p1 < (256 : Int32)
        · rw [if_pos c4] at hw
          rw [if_neg (Int32.not_le.mpr c4), if_neg (show ¬ (1 : Int32) = 0 by decide)] at hw2
          cases hw; cases hw2
          obtain ⟨a1, a2, a3, a5⟩ := h
          refine ⟨rfl, fun _ => updL_0 _ _, rfl, a1, a2, fun j hj => ?_, a5⟩
          by_cases e : j = p0.toNatClampNeg
          · rw [e, pk_us]
            obtain ⟨P, hP, rfl⟩ := nI_ofP c3
            exact ⟨P, (nI_ltI hP (by decide)).mp (show nI P < nI 256 from c4), rfl⟩
          · rw [pk_un e]
            exact a3 j hj
        · rw [if_neg c4] at hw
          rw [if_pos (Int32.not_lt.mp c4), if_pos rfl] at hw2
          cases hw; cases hw2
          exact ⟨rfl, fun h => absurd h (by decide), rfl, h⟩
    · rw [if_neg c2] at hw
      rw [if_pos (Int32.not_lt.mp c2), if_pos rfl] at hw2
      cases hw
      have e9 : (b, th', mr') = ((0 : Int32), (1 : Int32), ro) := by
        rw [hw2]
        repeat' split
        all_goals rfl
      cases e9
      exact ⟨rfl, fun h => absurd h (by decide), rfl, h⟩
theorem g_host (h : LREL L N LP f1 f8 ho ro n rs E us eC eL eB eF eR eU eX) {ho' mh' : Nat → Int32} {ov ov' : Nat → Int64} {p0 p1 : Int32} {k th' b : Int32} (hw : (k, ov', ho') = mL_host ov ho p0 p1) (hw2 : (b, th', mh') = mX5_host ho p0 p1) : th' = k ∧ (k = 0 → ov' 0 = b.toInt64) ∧ mh' = ho' ∧ LREL L N LP f1 f8 ho' ro n rs E us eC eL eB eF eR eU eX := by
  unfold mL_host mX4_host at hw
  unfold mX5_host mX5_isOf at hw2
  by_cases c1 : p0 < 0
  · rw [if_pos c1] at hw hw2
    rw [if_pos rfl] at hw2
    cases hw
    split at hw2
    · cases hw2; exact ⟨rfl, fun h => absurd h (by decide), rfl, h⟩
    · split at hw2 <;> (cases hw2; exact ⟨rfl, fun h => absurd h (by decide), rfl, h⟩)
  · rw [if_neg c1] at hw hw2
    by_cases c2 : p0 < (256 : Int32)
    · rw [if_pos c2] at hw
      rw [if_neg (Int32.not_le.mpr c2), if_neg (show ¬ (1 : Int32) = 0 by decide)] at hw2
      by_cases c3 : p1 < (-1 : Int32)
      · rw [if_pos c3] at hw hw2
        cases hw; cases hw2
        exact ⟨rfl, fun h => absurd h (by decide), rfl, h⟩
      · rw [if_neg c3] at hw hw2
        by_cases c4 : p1 ≤ (65535 : Int32)
        · rw [if_pos c4] at hw hw2
          cases hw; cases hw2
          obtain ⟨a1, a2, a5⟩ := h
          refine ⟨rfl, fun _ => updL_0 _ _, rfl, a1, fun j hj => ?_, a5⟩
          by_cases e : j = p0.toNatClampNeg
          · rw [e, pk_us]
            by_cases c5 : p1 < 0
            · refine Or.inl ?_
              have z1 : ¬ p1.toInt < (-1 : Int32).toInt := fun q => c3 (Int32.lt_iff_toInt_lt.mpr q)
              have z2 : p1.toInt < (0 : Int32).toInt := Int32.lt_iff_toInt_lt.mp c5
              apply Int32.toInt_inj.mp
              have z3 : (-1 : Int32).toInt = -1 := by decide
              have z4 : (0 : Int32).toInt = 0 := by decide
              rw [z3] at z1 ⊢
              rw [z4] at z2
              omega
            · obtain ⟨P, hP, rfl⟩ := nI_ofP c5
              exact Or.inr ⟨P, (nI_leI hP (by decide)).mp (show nI P ≤ nI 65535 from c4), rfl⟩
          · rw [pk_un e]
            exact a2 j hj
        · rw [if_neg c4] at hw hw2
          cases hw; cases hw2
          exact ⟨rfl, fun h => absurd h (by decide), rfl, h⟩
    · rw [if_neg c2] at hw
      rw [if_pos (Int32.not_lt.mp c2), if_pos rfl] at hw2
      cases hw
      split at hw2
      · cases hw2; exact ⟨rfl, fun h => absurd h (by decide), rfl, h⟩
      · split at hw2 <;> (cases hw2; exact ⟨rfl, fun h => absurd h (by decide), rfl, h⟩)
theorem g_hosts (h : LREL L N LP f1 f8 ho ro n rs E us eC eL eB eF eR eU eX) {x : Int32} (hx : ZB x) : LREL L N LP f1 x ho ro n rs E us eC eL eB eF eR eU eX := by
  obtain ⟨a1, a2, a3, a4, -, a6⟩ := h
  exact ⟨a1, a2, a3, a4, hx, a6⟩
theorem g_walk (h : LREL L N LP f1 f8 ho ro n rs E us eC eL eB eF eR eU eX) (hu : us + 1 < 2 ^ 31) {ov ov' : Nat → Int64} {wd wd' mm' : Nat → Int64} {f2 f3 f4 f5 f6 f7 f14 f10 f11 f12 : Int32} {rd : Nat} {lf : Int64} {pa wa : Nat → Int32} {ff fa lg cm : Int32} {mn : Nat} {p0 p1 : Int32}
    {k f2' f3' f4' f5' f6' f7' : Int32} {rd' : Nat} {f10' f11' f12' : Int32} {n' : Nat} {f14' : Int32} {lf' : Int64} {pa' : Nat → Int32} {rs' : Nat → Option Nat} {E' : Nat → Nat → Int32}
    {b th' : Int32} {en' us' : Nat} {eC' eL' eB' eF' eR' eU' eX' : Nat → Int32} {g2 g3 g4 g5 g6 g7 g14 ff' fa' : Int32} {mn' : Nat} {lg' cm' : Int32} {wa' : Nat → Int32}
    (hw : (k, ov', f2', f3', f4', f5', f6', f7', rd', f10', f11', f12', n', f14', lf', wd', pa', rs', E') = mL_walk N ov L f1 f2 f3 f4 f5 f6 f7 f8 rd f10 f11 f12 n f14 lf wd ho ro pa rs E p0 p1)
    (hw2 : (b, th', mm', en', us', eC', eL', eB', eF', eR', eU', eX', g2, g3, g4, g5, g6, g7, g14, ff', fa', mn', lg', cm', wa') = mX5_walk L N wd f1 ro ho f8 n us eC eL eB eF eR eU eX f2 f3 f4 f5 f6 f7 f14 ff fa mn lg cm wa p0 p1) :
    th' = k ∧ (k = 0 → ov' 0 = b.toInt64) ∧ mm' = wd' ∧ en' = n' ∧ us' ≤ us + 1 ∧ g2 = f2' ∧ g3 = f3' ∧ g4 = f4' ∧ g5 = f5' ∧ g6 = f6' ∧ g7 = f7' ∧ g14 = f14' ∧ LREL L N LP f1 f8 ho ro n' rs' E' us' eC' eL' eB' eF' eR' eU' eX' := by
  obtain ⟨F, hF, hro⟩ := h.root
  have h9 := h
  obtain ⟨⟨hL1, hL4, h0, hN⟩, hh, hR, hf1, hf8, hE, hl, hz⟩ := h
  have hz' : ∀ i, ZB (eX' i) := by
    have := zb_walk (L := L) (N := N) (mm := wd) (f1 := f1) (mr := ro) (mh := ho) (f8 := f8) (en := n) (us := us) (eC := eC) (eL := eL) (eB := eB) (eF := eF) (eR := eR) (eU := eU) (f2 := f2) (f3 := f3) (f4 := f4) (f5 := f5) (f6 := f6) (f7 := f7) (f14 := f14) (ff := ff) (fa := fa) (mn := mn) (lg := lg) (cm := cm) (wa := wa) (p0 := p0) (p1 := p1) hz
    rw [← hw2] at this
    exact this
  unfold mL_walk at hw
  rcases walk_rel (f8 := f8) (wd := wd) (f2 := f2) (f3 := f3) (f4 := f4) (f5 := f5) (f6 := f6) (f7 := f7) (f14 := f14) (f10 := f10) (f11 := f11) (f12 := f12) (rd := rd) (lf := lf) (pa := pa) (wa := wa) (ff := ff) (fa := fa) (lg := lg) (cm := cm) (mn := mn) (p0 := p0) (p1 := p1) hL1 hL4 h0 hh hro (by omega) hu (by have := hE.2.1; omega) hE hl with ⟨a1, a2⟩ | ⟨r, q2, q3, q4, q5, q6, q7, qrd, q10, q11, q12, qn, q14, qlf, qwd, qpa, qrs, qE, a1, a2⟩
  · rw [a1] at hw
    rw [a2] at hw2
    cases hw; cases hw2
    exact ⟨rfl, fun h => absurd h (by decide), rfl, rfl, Nat.le_succ _, rfl, rfl, rfl, rfl, rfl, rfl, rfl, h9⟩
  · rw [a1] at hw
    rw [← hw2] at a2
    obtain ⟨b1, b2, b3, b4, b5, ⟨c2, c3, c4, c5, c6, c7, c14⟩, b6, b7⟩ := a2
    dsimp only at b1 b2 b3 b4 b5 c2 c3 c4 c5 c6 c7 c14 b6
    cases hw
    subst b4
    exact ⟨b2, fun _ => by rw [b1]; exact updL_0 _ _, b3, rfl, b5, c2, c3, c4, c5, c6, c7, c14, ⟨hL1, hL4, h0, hN⟩, hh, hR, hf1, hf8, b6, b7, hz'⟩
theorem g_plain (h : LREL L N LP f1 f8 ho ro n rs E us eC eL eB eF eR eU eX) {ov ov' : Nat → Int64} {wd : Nat → Int64} {f10 f11 f12 : Int32} {rd : Nat} {lf : Int64} {pa wa : Nat → Int32} {ff fa lg cm : Int32} {mn : Nat} {p0 p1 : Int32}
    {k : Int32} {rd' : Nat} {lf' : Int64} {f10' f11' f12' : Int32} {pa' : Nat → Int32} {b th' ff' fa' : Int32} {mn' : Nat} {lg' cm' : Int32} {wa' : Nat → Int32}
    (hw : (k, ov', rd', lf', f10', f11', f12', pa') = mL_plain ov L f1 f8 rd f10 f11 f12 lf wd ho ro pa p0 p1) (hw2 : (b, th', ff', fa', mn', lg', cm', wa') = mX5_plain L wd f1 ro ho f8 ff fa mn lg cm wa p0 p1) : th' = k ∧ (k = 0 → ov' 0 = b.toInt64) := by
  obtain ⟨F, hF, hro⟩ := h.root
  obtain ⟨⟨hL1, hL4, h0, hN⟩, hh, hR, hf1, hf8, hE, hl, hz⟩ := h
  have key := fol_wk (L := L) (f8 := f8) (wd := wd) (f10 := f10) (k := p1) (f1 := f1) (lg := lg) (cm := cm) (fa := fa) (wa := wa) (pa := pa) (lf := lf) (p := p0) hh hL1 hL4 hro (by omega)
  unfold mL_plain mX4_plain at hw
  unfold mX5_plain at hw2
  rw [show mX4_isKind p1 = mX5_isOf p1 (6 : Int32) from rfl] at hw
  by_cases c1 : mX5_isOf p1 (6 : Int32) = 0
  · rw [if_pos c1] at hw hw2
    cases hw; cases hw2
    exact ⟨rfl, fun h => absurd h (by decide)⟩
  · rw [if_neg c1] at hw hw2
    rw [show mX5_throwing (0 : Int32) (0 : Int32) = ((0 : Int32), (0 : Int32)) from rfl] at hw2
    generalize mFol L f8 wd ho f10 lf pa (ro f1.toNatClampNeg) p0 p1 = X at key hw
    generalize mWk L wd f1 ro ho f8 fa lg cm wa p0 p1 = Y at key hw2
    obtain ⟨r1, rd1, lf1, x10, x11, x12, pa1⟩ := X
    obtain ⟨g1, ff1, fa1, mn1, lg1, cm1, wa1⟩ := Y
    obtain ⟨hmn, hag, key⟩ := key
    dsimp only at key hw hw2
    rcases key with ⟨q0, q1, q2, q3, ⟨g, hg, q4, q5⟩, ⟨q, hq, q6, q7⟩⟩ | ⟨q0, q1, q2, q3, q4⟩
    · rw [if_pos q0] at hw
      rw [q1, if_neg (show ¬ (1 : Int32) = 0 by decide)] at hw2
      cases hw; cases hw2
      exact ⟨rfl, fun _ => by rw [updL_0, q6, q7]⟩
    · rw [if_neg q0] at hw
      rw [if_pos q1] at hw2
      cases hw; cases hw2
      exact ⟨rfl, fun _ => by rw [updL_0, q2]⟩
theorem g_flush (h : LREL L N LP f1 f8 ho ro n rs E us eC eL eB eF eR eU eX) {ov ov' : Nat → Int64} {p0 p1 : Int32} {k : Int32} {n' : Nat} {rs' : Nat → Option Nat} {b th' : Int32} {en' : Nat} {eC' eL' eB' eF' eR' eU' eX' : Nat → Int32}
    (hw : (k, ov', n', rs') = mL_flush ov f1 n rs E p0 p1) (hw2 : (b, th', en', eC', eL', eB', eF', eR', eU', eX') = mFl p0 (n, eC, eL, eB, eF, eR, eU, eX) (mFlL f1 p0 p1 n 0 (n, eC, eL, eB, eF, eR, eU, eX))) : th' = k ∧ (k = 0 → ov' 0 = b.toInt64) ∧ en' = n' ∧ LREL L N LP f1 f8 ho ro n' rs' E us eC' eL' eB' eF' eR' eU' eX' := by
  have h9 := h
  obtain ⟨a1, hh, hR, hf1, hf8, hE, hl, hz⟩ := h
  unfold mL_flush mX4_flush at hw
  unfold mFl mX5_isOf at hw2
  by_cases c1 : p0 < 0
  · rw [if_pos c1] at hw hw2
    cases hw; cases hw2
    exact ⟨rfl, fun h => absurd h (by decide), rfl, h9⟩
  · rw [if_neg c1] at hw hw2
    obtain ⟨P, hP, rfl⟩ := nI_ofP c1
    by_cases c2 : nI P ≤ (2 : Int32)
    · have hP3 : P ≤ 2 := (nI_leI hP (by decide)).mp (show nI P ≤ nI 2 from c2)
      have hw9 : nI P = 0 ∨ nI P = 1 ∨ nI P = 2 := by
        rcases (show P = 0 ∨ P = 1 ∨ P = 2 by omega) with rfl | rfl | rfl
        · exact Or.inl rfl
        · exact Or.inr (Or.inl rfl)
        · exact Or.inr (Or.inr rfl)
      obtain ⟨b1, b2⟩ := flush_rel (c := f1) (p := p1) hE hw9
      have hm := fun a (ha : a ∈ lsC (mForL E (nI P) f1 p1 n 0 0 rs).1 (mForL E (nI P) f1 p1 n 0 0 rs).2 E) => flush_mem hE.1 hE.2.1 ha
      have hx : (mFlL f1 (nI P) p1 n 0 (n, eC, eL, eB, eF, eR, eU, eX)).2 = gDrop (fun a => goF (nI P) f1 p1 a.2) n (n, eC, eL, eB, eF, eR, eU, eX) := (mFlL_drop n 0 (n, eC, eL, eB, eF, eR, eU, eX) (Nat.le_refl _)).1
      have hzz := zb_gDrop (mt := fun a => goF (nI P) f1 p1 a.2) n (n, eC, eL, eB, eF, eR, eU, eX) hz
      rw [← hx] at hzz
      rw [if_pos c2] at hw
      rw [if_neg (show ¬ (3 : Int32) ≤ nI P from fun q => absurd ((nI_leI (a := 3) (b := P) (by decide) hP).mp q) (by omega)), if_neg (show ¬ (1 : Int32) = 0 by decide)] at hw2
      generalize mForL E (nI P) f1 p1 n 0 0 rs = X at hw b1 b2 hm
      generalize mFlL f1 (nI P) p1 n 0 (n, eC, eL, eB, eF, eR, eU, eX) = Y at hw2 b1 b2 hzz
      obtain ⟨t, r⟩ := X
      obtain ⟨m, en1, c1', c2', c3', c4', c5', c6', c7'⟩ := Y
      unfold mFor at hw
      dsimp only at hw hw2 b1 b2 hzz hm
      cases hw; cases hw2
      have hen : en' = n' := by
        obtain ⟨-, -, -, -, so2, hS2, hes2⟩ := b1
        exact rel_len hS2 hes2
      subst hen
      exact ⟨rfl, fun _ => by rw [updL_0, b2], rfl, a1, hh, hR, hf1, hf8, b1, fun a ha => hl a (hm a ha), hzz⟩
    · rw [if_neg c2] at hw
      have hP3 : 3 ≤ P := by
        have := mt (nI_leI hP (show 2 < 2 ^ 31 by decide)).mpr (show ¬ nI P ≤ nI 2 from c2)
        omega
      rw [if_pos (show (3 : Int32) ≤ nI P from nI_le (a := 3) hP3 hP)] at hw2
      cases hw; cases hw2
      exact ⟨rfl, fun h => absurd h (by decide), rfl, h9⟩
theorem kept_io (h : LREL L N LP f1 f8 ho ro n rs E us eC eL eB eF eR eU eX) {p0 : Int32} (hp : ¬ mX5_isOf p0 (nI n) = 0) : ∃ k, p0 = nI k ∧ k < n ∧ ∃ e, mIno eU n p0 n 0 = some e ∧ entE E (rowA rs k) = (eC e, eL e, eB e, eF e, eR e, eX e) := by
  obtain ⟨⟨-, -, -, hN⟩, -, -, -, -, hE, -, -⟩ := h
  obtain ⟨hR, hn, hU, hF, so, hS, hes⟩ := hE
  unfold mX5_isOf at hp
  by_cases c1 : p0 < 0
  · rw [if_pos c1] at hp
    exact absurd rfl hp
  · rw [if_neg c1] at hp
    obtain ⟨k, hk, rfl⟩ := nI_ofP c1
    by_cases c2 : nI n ≤ nI k
    · rw [if_pos c2] at hp
      exact absurd rfl hp
    · have hkn : k < n := by
        have := mt (nI_leI (by omega) hk).mpr c2
        omega
      obtain ⟨e, e1, e2, e3⟩ := mIno_spec hS (show (n, eC, eL, eB, eF, eR, eU, eX).1 < 2 ^ 31 by show n < 2 ^ 31; omega) hkn n 0 (by omega) (fun q hq => absurd hq (by omega))
      obtain ⟨a, b1, b2⟩ := rel_get hes hkn
      rw [e3] at b1
      cases b1
      exact ⟨k, rfl, hkn, e, e1, b2.symm⟩
theorem g_kept (h : LREL L N LP f1 f8 ho ro n rs E us eC eL eB eF eR eU eX) {ov ov' : Nat → Int64} {p0 p1 : Int32} {k b th' : Int32} (hw : (k, ov') = mL_kept ov n rs E p0 p1) (hw2 : (b, th') = mX5_kept n eC eL eB eF eR eU eX p0 p1) : th' = k ∧ (k = 0 → ov' 0 = b.toInt64) := by
  have hio := fun q => kept_io h (p0 := p0) q
  unfold mL_kept mX4_kept at hw
  unfold mX5_kept at hw2
  by_cases c0 : mX5_isOf p0 (nI n) = 0
  · rw [if_pos c0] at hw2
    unfold mX5_isOf at c0
    cases hw2
    by_cases c1 : p0 < 0
    · rw [if_pos c1] at hw
      cases hw
      exact ⟨rfl, fun h => absurd h (by decide)⟩
    · rw [if_neg c1] at hw c0
      by_cases c2 : p0 < nI n
      · rw [if_neg (Int32.not_le.mpr c2)] at c0
        exact absurd c0 (by decide)
      · rw [if_neg c2] at hw
        cases hw
        exact ⟨rfl, fun h => absurd h (by decide)⟩
  · obtain ⟨q, rfl, hq, e, e1, e2⟩ := hio c0
    rw [if_neg c0] at hw2
    have hn31 : n < 2 ^ 31 := by
      have := h.le
      have := h.1.2.2.2
      omega
    rw [if_neg (nI_pos (by omega)), if_pos (nI_lt hq hn31), nI_clamp (by omega)] at hw
    unfold mX5_isOf at hw2
    by_cases c1 : p1 < 0
    · rw [if_pos c1] at hw hw2
      cases hw; cases hw2
      exact ⟨rfl, fun h => absurd h (by decide)⟩
    · rw [if_neg c1] at hw hw2
      by_cases c2 : p1 < (6 : Int32)
      · rw [if_pos c2] at hw
        rw [if_neg (Int32.not_le.mpr c2), if_neg (show ¬ (1 : Int32) = 0 by decide), show mX5_throwing (0 : Int32) (0 : Int32) = ((0 : Int32), (0 : Int32)) from rfl, e1] at hw2
        unfold mX1_part at hw
        have y0 : E 0 (rowA rs q) = eC e := congrArg (fun z : Ent => z.1) e2
        have y1 : E 1 (rowA rs q) = eL e := congrArg (fun z : Ent => z.2.1) e2
        have y2 : E 2 (rowA rs q) = eB e := congrArg (fun z : Ent => z.2.2.1) e2
        have y3 : E 3 (rowA rs q) = eF e := congrArg (fun z : Ent => z.2.2.2.1) e2
        have y4 : E 4 (rowA rs q) = eR e := congrArg (fun z : Ent => z.2.2.2.2.1) e2
        have y5 : E 5 (rowA rs q) = eX e := congrArg (fun z : Ent => z.2.2.2.2.2) e2
        rw [y0, y1, y2, y3, y4, y5] at hw
        dsimp only at hw2
        by_cases d0 : p1 = 0
        · rw [if_pos d0] at hw hw2; cases hw; cases hw2; exact ⟨rfl, fun _ => updL_0 _ _⟩
        · rw [if_neg d0] at hw hw2
          by_cases d1 : p1 = 1
          · rw [if_pos d1] at hw hw2; cases hw; cases hw2; exact ⟨rfl, fun _ => updL_0 _ _⟩
          · rw [if_neg d1] at hw hw2
            by_cases d2 : p1 = 2
            · rw [if_pos d2] at hw hw2; cases hw; cases hw2; exact ⟨rfl, fun _ => updL_0 _ _⟩
            · rw [if_neg d2] at hw hw2
              by_cases d3 : p1 = 3
              · rw [if_pos d3] at hw hw2; cases hw; cases hw2; exact ⟨rfl, fun _ => updL_0 _ _⟩
              · rw [if_neg d3] at hw hw2
                by_cases d4 : p1 = 4
                · rw [if_pos d4] at hw hw2; cases hw; cases hw2; exact ⟨rfl, fun _ => updL_0 _ _⟩
                · rw [if_neg d4] at hw hw2
                  by_cases d5 : eX e = 0
                  · rw [if_pos d5] at hw hw2; cases hw; cases hw2; exact ⟨rfl, fun _ => updL_0 _ _⟩
                  · rw [if_neg d5] at hw hw2; cases hw; cases hw2; exact ⟨rfl, fun _ => updL_0 _ _⟩
      · rw [if_neg c2] at hw
        rw [if_pos (Int32.not_lt.mp c2), if_pos rfl] at hw2
        cases hw; cases hw2
        exact ⟨rfl, fun h => absurd h (by decide)⟩
theorem g_stale (h : LREL L N LP f1 f8 ho ro n rs E us eC eL eB eF eR eU eX) {ov ov' : Nat → Int64} {wd : Nat → Int64} {f10 f11 f12 : Int32} {rd : Nat} {lf : Int64} {pa wa : Nat → Int32} {ff fa lg cm : Int32} {mn : Nat} {p0 : Int32}
    {k : Int32} {rd' : Nat} {lf' : Int64} {f10' f11' f12' : Int32} {pa' : Nat → Int32} {b th' ff' fa' : Int32} {mn' : Nat} {lg' cm' : Int32} {wa' : Nat → Int32}
    (hw : (k, ov', rd', lf', f10', f11', f12', pa') = mL_stale ov L f1 f8 rd f10 f11 f12 n lf wd ho ro pa rs E p0) (hw2 : (b, th', ff', fa', mn', lg', cm', wa') = mSt p0 (0, ff, fa, mn, lg, cm, wa) (mStM L wd f1 ro ho f8 eC eL eB eF eR p0 n 0 0 ff fa mn lg cm wa)) : th' = k ∧ (k = 0 → ov' 0 = b.toInt64) := by
  obtain ⟨F, hF, hro⟩ := h.root
  obtain ⟨⟨hL1, hL4, h0, hN⟩, hh, hR, hf1, hf8, hE, hl, hz⟩ := h
  have key := stale_rel (k := p0) (f8 := f8) (wd := wd) hh hL1 hL4 hro (by omega) hE rd lf f10 f11 f12 pa ff fa mn lg cm wa
  unfold mL_stale mStale at hw
  unfold mSt at hw2
  rw [show mX4_isKind p0 = mX5_isOf p0 (6 : Int32) from rfl] at hw
  by_cases c1 : mX5_isOf p0 (6 : Int32) = 0
  · rw [if_pos c1] at hw hw2
    cases hw; cases hw2
    exact ⟨rfl, fun h => absurd h (by decide)⟩
  · rw [if_neg c1] at hw hw2
    dsimp only at key
    generalize mStaL L f1 f8 wd ho ro rs E p0 n 0 0 rd lf f10 f11 f12 pa = X at key hw
    generalize mStM L wd f1 ro ho f8 eC eL eB eF eR p0 n 0 0 ff fa mn lg cm wa = Y at key hw2
    obtain ⟨t, x1, x2, x3, x4, x5, x6⟩ := X
    obtain ⟨t2, z1, z2, z3, z4, z5, z6⟩ := Y
    dsimp only at key hw hw2
    cases hw; cases hw2
    exact ⟨rfl, fun _ => by rw [updL_0, key]⟩
theorem g_count {f4 f5 f6 f7 f14 p0 b th' : Int32} (hw2 : (b, th') = mX5_count L N f1 n f4 f5 f6 f7 f14 p0) : mX4_count N L f1 f4 f5 f6 f7 n f14 p0 = b := by
  unfold mX5_count at hw2
  unfold mX4_count
  repeat' split at hw2
  all_goals (cases hw2; simp [*])
end BOTH
