theorem goes_ok2 {L : Nat} {mm : Nat → Int64} {mh : Nat → Int32} {f8 ff fa : Int32} {mn : Nat} {wa : Nat → Int32} {p0 : Int32} {p1 : Nat} {p2 p3 r ff' fa' lg' : Int32} {mn' : Nat} {wa' : Nat → Int32} (h : (r, ff', fa', mn', lg', wa') = mX5_goes L mm mh f8 ff fa mn wa p0 p1 p2 p3) : (mn' = mn ∧ wa' = wa) ∨ (mn' = mn + 1 ∧ ∃ x, vp_in x 4096 ∧ wa' = upd wa mn x) := by
  unfold mX5_goes mX5_fails at h
  dsimp only at h
  by_cases h1 : 0 ≤ mX5_mapped mh f8 p0
  · rw [if_pos h1] at h
    by_cases h2 : mX5_mapped mh f8 p0 < (256 : Int32)
    · rw [if_pos h2] at h
      have key := cx_wordin2 (i := p2 >>> (((8 : Int32) + ((4 : Int32) * nI (L - 1 - p1))) &&& 31)) h1 h2
      repeat' (split at h)
      all_goals (cases h; exact Or.inr ⟨rfl, _, key, rfl⟩)
    · rw [if_neg h2] at h
      cases h
      exact Or.inl ⟨rfl, rfl⟩
  · rw [if_neg h1] at h
    cases h
    exact Or.inl ⟨rfl, rfl⟩
theorem wkL_ok {L : Nat} {mm : Nat → Int64} {mh : Nat → Int32} {f8 p0 p1 : Int32} : ∀ (j l9 : Nat) (fr ff fa : Int32) (mn : Nat) (lg cm : Int32) (wa : Nat → Int32) {r ff' fa' lg' cm' : Int32} {mn' : Nat} {wa' : Nat → Int32}, mn + j ≤ 4 → (∀ i, i < mn → vp_in (wa i) 4096) → (r, ff', fa', mn', lg', cm', wa') = mWkL L mm mh f8 p0 p1 j l9 fr ff fa mn lg cm wa → mn' ≤ 4 ∧ (∀ i, i < mn' → vp_in (wa' i) 4096) ∧ (¬ r = 0 → 1 ≤ mn' ∧ ¬ lg' < 0)
  | 0, l9, fr, ff, fa, mn, lg, cm, wa, r, ff', fa', lg', cm', mn', wa', h1, h2, h => by
    unfold mWkL at h
    cases h
    exact ⟨by omega, h2, fun q => absurd rfl q⟩
  | j + 1, l9, fr, ff, fa, mn, lg, cm, wa, r, ff', fa', lg', cm', mn', wa', h1, h2, h => by
    unfold mWkL at h
    generalize hq : mX5_goes L mm mh f8 ff fa mn wa fr l9 p0 p1 = q at h
    obtain ⟨r1, ff1, fa1, mn1, lg1, wa1⟩ := q
    dsimp only at h
    have hg := goes_ok2 hq.symm
    have e2 : mn1 ≤ mn + 1 ∧ ∀ i, i < mn1 → vp_in (wa1 i) 4096 := by
      rcases hg with ⟨rfl, rfl⟩ | ⟨rfl, x, hx, rfl⟩
      · exact ⟨by omega, h2⟩
      · refine ⟨by omega, fun i hi => ?_⟩
        by_cases e : i = mn
        · subst e
          rw [pk_us]
          exact hx
        · rw [pk_un e]
          exact h2 i (by omega)
    by_cases c1 : r1 = 0
    · rw [if_pos c1] at h
      cases h
      exact ⟨by omega, e2.2, fun q => absurd rfl q⟩
    · rw [if_neg c1] at h
      have e3 := goes_ok hq.symm c1
      by_cases c2 : lg1 < 0
      · rw [if_pos c2] at h
        exact wkL_ok j (l9 + 1) _ _ _ _ _ _ _ (by omega) e2.2 h
      · rw [if_neg c2] at h
        generalize hq2 : mX5_ends L mh f8 ff1 fa1 cm (mX5_frameOf (mm (wa1 (mn1 - 1)).toNatClampNeg)) lg1 p0 = q2 at h
        obtain ⟨r2, ff2, fa2, cm2⟩ := q2
        dsimp only at h
        cases h
        exact ⟨by omega, e2.2, fun _ => ⟨by omega, c2⟩⟩
theorem wk_ok {L : Nat} {mm : Nat → Int64} {f1 : Int32} {mr mh : Nat → Int32} {f8 fa lg cm : Int32} {wa : Nat → Int32} {p0 p1 : Int32} {r ff' fa' lg' cm' : Int32} {mn' : Nat} {wa' : Nat → Int32} (h : (r, ff', fa', mn', lg', cm', wa') = mWk L mm f1 mr mh f8 fa lg cm wa p0 p1) (hL4 : L ≤ 4) : mn' ≤ 4 ∧ (∀ i, i < mn' → vp_in (wa' i) 4096) ∧ (¬ r = 0 → 1 ≤ mn' ∧ ¬ lg' < 0) := by
  unfold mWk at h
  by_cases c : mX5_isOutside L p0 = 0
  · rw [if_pos c] at h
    exact wkL_ok L 0 _ _ _ 0 _ _ _ (by omega) (fun i hi => absurd hi (by omega)) h
  · rw [if_neg c] at h
    unfold mX5_fails at h
    dsimp only at h
    cases h
    exact ⟨by omega, fun i hi => absurd hi (by omega), fun q => absurd rfl q⟩
