/-! the class's entries as a list -/
def fitC (c p : Int32) (a : Ent) : Bool := decide (a.1 = c) && decide (a.2.2.1 = jushr p (mX4_bitsBelow a.2.1))
def keyC (c p g : Int32) (a : Ent) : Bool := decide (a.2.1 = g) && fitC c p a
def meantC (w c p : Int32) (a : Ent) : Bool := if w = 0 then true else if w = 1 then decide (a.1 = c) else fitC c p a
theorem stands_fit {E : Nat → Nat → Int32} {y : Nat} {c p : Int32} : mX1_standsFor E y c p = 0 ↔ fitC c p (entE E y) = false := by
  unfold mX1_standsFor fitC entE
  dsimp only
  by_cases h1 : E 0 y = c
  · by_cases h2 : E 2 y = jushr p (mX4_bitsBelow (E 1 y))
    · rw [if_pos h1, if_pos h2, decide_eq_true h1, decide_eq_true h2]
      exact ⟨fun h => absurd h (by decide), fun h => absurd h (by decide)⟩
    · rw [if_pos h1, if_neg h2, decide_eq_false h2, Bool.and_false]
      exact ⟨fun _ => rfl, fun _ => rfl⟩
  · rw [if_neg h1, decide_eq_false h1, Bool.false_and]
    exact ⟨fun _ => rfl, fun _ => rfl⟩
theorem meant_iff {E : Nat → Nat → Int32} {y : Nat} {w c p : Int32} : mX0_isMeant E y w c p = 0 ↔ meantC w c p (entE E y) = false := by
  unfold mX0_isMeant meantC
  by_cases h0 : w = 0
  · rw [if_pos h0, if_pos h0]
    exact ⟨fun h => absurd h (by decide), fun h => absurd h (by decide)⟩
  · rw [if_neg h0, if_neg h0]
    by_cases h1 : w = 1
    · rw [if_pos h1, if_pos h1]
      by_cases h2 : E 0 y = c
      · rw [if_pos h2]
        exact ⟨fun h => absurd h (by decide), fun h => absurd (decide_eq_false_iff_not.mp h) (fun q => q h2)⟩
      · rw [if_neg h2]
        exact ⟨fun _ => decide_eq_false h2, fun _ => rfl⟩
    · rw [if_neg h1, if_neg h1]
      exact stands_fit
section FIND
variable {rs : Nat → Option Nat} {E : Nat → Nat → Int32} {c p g : Int32}
theorem mFind_none : ∀ (j i : Nat), mFind rs E c p j i = none → ∀ q, i ≤ q → q < i + j → fitC c p (entE E (rowA rs q)) = false
  | 0, i, _, q, h1, h2 => absurd h2 (by omega)
  | j + 1, i, h, q, h1, h2 => by
    unfold mFind at h
    split at h
    · rename_i h3
      by_cases e : q = i
      · subst e
        exact stands_fit.mp h3
      · exact mFind_none j (i + 1) h q (by omega) (by omega)
    · cases h
theorem mFind_some : ∀ (j i k : Nat), mFind rs E c p j i = some k → i ≤ k ∧ k < i + j ∧ fitC c p (entE E (rowA rs k)) = true ∧ ∀ q, i ≤ q → q < k → fitC c p (entE E (rowA rs q)) = false
  | 0, i, k, h => by cases h
  | j + 1, i, k, h => by
    unfold mFind at h
    split at h
    · rename_i h3
      obtain ⟨a1, a2, a3, a4⟩ := mFind_some j (i + 1) k h
      refine ⟨by omega, by omega, a3, fun q h1 h2 => ?_⟩
      by_cases e : q = i
      · subst e
        exact stands_fit.mp h3
      · exact a4 q (by omega) h2
    · rename_i h3
      cases h
      refine ⟨Nat.le_refl _, by omega, ?_, fun q h1 h2 => absurd h2 (by omega)⟩
      exact (Bool.not_eq_false _).mp (fun h9 => h3 (stands_fit.mpr h9))
theorem key_false {y : Nat} : keyC c p g (entE E y) = false ↔ ¬ (E 1 y = g ∧ ¬ mX1_standsFor E y c p = 0) := by
  unfold keyC
  rw [show (entE E y).2.1 = E 1 y from rfl]
  by_cases h1 : E 1 y = g
  · rw [decide_eq_true h1, Bool.true_and, ← stands_fit]
    exact ⟨fun h q => q.2 h, fun h => Classical.byContradiction (fun q => h ⟨h1, q⟩)⟩
  · rw [decide_eq_false h1, Bool.false_and]
    exact ⟨fun _ q => h1 q.1, fun _ => rfl⟩
theorem mRowL_none : ∀ (j i : Nat), mRowL rs E c p g j i = none → ∀ q, i ≤ q → q < i + j → keyC c p g (entE E (rowA rs q)) = false
  | 0, i, _, q, h1, h2 => absurd h2 (by omega)
  | j + 1, i, h, q, h1, h2 => by
    unfold mRowL at h
    by_cases e : q = i
    · subst e
      rw [key_false]
      rintro ⟨k1, k2⟩
      rw [if_pos k1, if_neg k2] at h
      cases h
    · have h9 : mRowL rs E c p g j (i + 1) = none := by
        split at h
        · split at h
          · exact h
          · cases h
        · exact h
      exact mRowL_none j (i + 1) h9 q (by omega) (by omega)
theorem mRowL_some : ∀ (j i k : Nat), mRowL rs E c p g j i = some k → i ≤ k ∧ k < i + j ∧ keyC c p g (entE E (rowA rs k)) = true ∧ ∀ q, i ≤ q → q < k → keyC c p g (entE E (rowA rs q)) = false
  | 0, i, k, h => by cases h
  | j + 1, i, k, h => by
    unfold mRowL at h
    by_cases k9 : E 1 (rowA rs i) = g ∧ ¬ mX1_standsFor E (rowA rs i) c p = 0
    · rw [if_pos k9.1, if_neg k9.2] at h
      cases h
      refine ⟨Nat.le_refl _, by omega, ?_, fun q h1 h2 => absurd h2 (by omega)⟩
      exact (Bool.not_eq_false _).mp (fun h9 => key_false.mp h9 k9)
    · have h9 : mRowL rs E c p g j (i + 1) = some k := by
        split at h
        · rename_i h1
          split at h
          · exact h
          · rename_i h2
            exact absurd ⟨h1, h2⟩ k9
        · exact h
      obtain ⟨a1, a2, a3, a4⟩ := mRowL_some j (i + 1) k h9
      refine ⟨by omega, by omega, a3, fun q h1 h2 => ?_⟩
      by_cases e : q = i
      · subst e
        exact key_false.mpr k9
      · exact a4 q (by omega) h2
end FIND
def useIx (k j : Nat) : Nat := if j = 0 then k else if j ≤ k then j - 1 else j
theorem useRs_ix (rs : Nat → Option Nat) (k j : Nat) : useRs rs k j = rs (useIx k j) := by
  unfold useRs useIx
  split
  · rfl
  · split <;> rfl
theorem rowA_use (rs : Nat → Option Nat) (k j : Nat) : rowA (useRs rs k) j = rowA rs (useIx k j) := by
  unfold rowA
  rw [useRs_ix]
theorem useIx_lt {k j N : Nat} (hk : k < N) (hj : j < N) : useIx k j < N := by
  unfold useIx
  split
  · exact hk
  · split <;> omega
theorem useIx_inj {k i j : Nat} (h : useIx k i = useIx k j) : i = j := by
  unfold useIx at h
  split at h <;> split at h <;> (try split at h) <;> (try split at h) <;> omega
theorem ROK_use {N k : Nat} {LP : List Nat} {rs : Nat → Option Nat} (h : ROK N LP rs) (hk : k < N) : ROK N LP (useRs rs k) := by
  refine ⟨fun i hi => ?_, fun i j hi hj e => ?_⟩
  · rw [useRs_ix, rowA_use]
    exact h.1 _ (useIx_lt hk hi)
  · rw [rowA_use, rowA_use] at e
    exact useIx_inj (h.2 _ _ (useIx_lt hk hi) (useIx_lt hk hj) e)
theorem lsC_use {n k : Nat} {rs : Nat → Option Nat} {E : Nat → Nat → Int32} (hk : k < n) : lsC n (useRs rs k) E = entE E (rowA rs k) :: (lsC n rs E).eraseIdx k := by
  apply List.ext_getElem?
  intro j
  cases j with
  | zero =>
    rw [lsC_get (by omega), rowA_use]
    rfl
  | succ j =>
    rw [List.getElem?_cons_succ, List.getElem?_eraseIdx]
    by_cases hj : j + 1 < n
    · rw [lsC_get hj, rowA_use]
      by_cases h1 : j < k
      · rw [if_pos h1, lsC_get (by omega), show useIx k (j + 1) = j by unfold useIx; rw [if_neg (by omega), if_pos (by omega)]; rfl]
      · rw [if_neg h1, lsC_get hj, show useIx k (j + 1) = j + 1 by unfold useIx; rw [if_neg (by omega), if_neg (by omega)]]
    · rw [if_neg (by omega), List.getElem?_eq_none (by rw [lsC_len]; omega), List.getElem?_eq_none (by rw [lsC_len]; omega)]
theorem setE_at (E : Nat → Nat → Int32) (j y : Nat) (v : Int32) (i z : Nat) : setE E j y v i z = if i = j ∧ z = y then v else E i z := by
  unfold setE
  by_cases h : i = j
  · subst h
    rw [va_up_self]
    by_cases h2 : z = y
    · subst h2
      rw [pk_us, if_pos ⟨rfl, rfl⟩]
    · rw [pk_un h2, if_neg (fun q => h2 q.2)]
  · rw [va_up_ne _ _ h, if_neg (fun q => h q.1)]
theorem ent_set (E : Nat → Nat → Int32) (y : Nat) (a b c d e f : Int32) (z : Nat) : entE (setE (setE (setE (setE (setE (setE E 0 y a) 1 y b) 2 y c) 3 y d) 4 y e) 5 y f) z = if z = y then (a, b, c, d, e, f) else entE E z := by
  unfold entE
  simp only [setE_at]
  by_cases h : z = y
  · simp [h]
  · simp [h]
def newE (c g p : Int32) (lf : Int64) : Ent := (c, g, jushr p (mX4_bitsBelow g), mX4_frameOf lf, mX4_rightsOf lf, if lg_cmp (lf &&& (128 : Int64)) (0 : Int64) = 0 then (0 : Int32) else (1 : Int32))
theorem lsC_erase {n x y : Nat} {rs : Nat → Option Nat} {E E' : Nat → Nat → Int32} (h : ∀ i, i < n → i ≠ x → entE E' (rowA rs i) = entE E (rowA rs i)) : (lsC n rs E').eraseIdx x = (lsC n rs E).eraseIdx x := by
  apply List.ext_getElem?
  intro j
  rw [List.getElem?_eraseIdx, List.getElem?_eraseIdx]
  have key : ∀ i, i ≠ x → (lsC n rs E')[i]? = (lsC n rs E)[i]? := by
    intro i hi
    by_cases hn : i < n
    · rw [lsC_get hn, lsC_get hn, h i hn hi]
    · rw [List.getElem?_eq_none (by rw [lsC_len]; omega), List.getElem?_eq_none (by rw [lsC_len]; omega)]
  split
  · exact key j (by omega)
  · exact key (j + 1) (by omega)
theorem lsC_last {n : Nat} {rs : Nat → Option Nat} {E : Nat → Nat → Int32} : (lsC (n + 1) rs E).eraseIdx n = lsC n rs E := by
  apply List.ext_getElem?
  intro j
  rw [List.getElem?_eraseIdx]
  by_cases h : j < n
  · rw [if_pos h, lsC_get h, lsC_get (by omega)]
  · rw [if_neg h, List.getElem?_eq_none (by rw [lsC_len]; omega), List.getElem?_eq_none (by rw [lsC_len]; omega)]
theorem keep_at {N n' x : Nat} {LP : List Nat} {rs : Nat → Option Nat} {E : Nat → Nat → Int32} {v : Ent} (hR : ROK N LP rs) (hx : x < n') (hn : n' ≤ N) {E' : Nat → Nat → Int32} (hE : ∀ z, entE E' z = if z = rowA rs x then v else entE E z) : lsC n' (useRs rs x) E' = v :: (lsC n' rs E).eraseIdx x := by
  rw [lsC_use hx, hE, if_pos rfl, lsC_erase (y := 0) (E := E)]
  intro i hi hne
  rw [hE, if_neg]
  intro e
  exact hne (hR.2 i x (by omega) (by omega) e)
/-- the class keeps an entry: what its list becomes -/
theorem keep_cls {N n n' : Nat} {LP : List Nat} {rs rs' : Nat → Option Nat} {E E' : Nat → Nat → Int32} {c p g f14 f14' : Int32} {lf : Int64} (h : (n', f14', rs', E') = mX0_keep N g n f14 lf rs E c p) (hR : ROK N LP rs) (hn : n ≤ N) (h0 : 0 < N) :
    ROK N LP rs' ∧ n' ≤ N ∧
    ((∃ i, i < n ∧ keyC c p g (entE E (rowA rs i)) = true ∧ n' = n ∧ f14' = f14 ∧ lsC n' rs' E' = newE c g p lf :: (lsC n rs E).eraseIdx i) ∨
     ((∀ a ∈ lsC n rs E, keyC c p g a = false) ∧ n < N ∧ f14' = f14 ∧ lsC n' rs' E' = newE c g p lf :: lsC n rs E) ∨
     ((∀ a ∈ lsC n rs E, keyC c p g a = false) ∧ n = N ∧ f14' = f14 + (1 : Int32) ∧ lsC n' rs' E' = newE c g p lf :: (lsC n rs E).eraseIdx (n - 1))) := by
  have fin : ∀ x n1 : Nat, ∀ f9 : Int32, (n', f14', rs', E') = (match ((x, n1, f9) : Nat × Nat × Int32) with
    | (x_1, n_1, f14_1) =>
      if (lg_cmp (lf &&& (128 : Int64)) (0 : Int64)) = 0 then
        (n_1, f14_1, useRs rs x_1, setE (setE (setE (setE (setE (setE E 0 (rowA rs x_1) c) 1 (rowA rs x_1) g) 2 (rowA rs x_1) (jushr p (mX4_bitsBelow g))) 3 (rowA rs x_1) (mX4_frameOf lf)) 4 (rowA rs x_1) (mX4_rightsOf lf)) 5 (rowA rs x_1) (0 : Int32))
      else
        (n_1, f14_1, useRs rs x_1, setE (setE (setE (setE (setE (setE E 0 (rowA rs x_1) c) 1 (rowA rs x_1) g) 2 (rowA rs x_1) (jushr p (mX4_bitsBelow g))) 3 (rowA rs x_1) (mX4_frameOf lf)) 4 (rowA rs x_1) (mX4_rightsOf lf)) 5 (rowA rs x_1) (1 : Int32))) →
      x < n1 → n1 ≤ N → n' = n1 ∧ f14' = f9 ∧ ROK N LP rs' ∧ lsC n' rs' E' = newE c g p lf :: (lsC n1 rs E).eraseIdx x := by
    intro x n1 f9 h9 hx hn1
    dsimp only at h9
    split at h9
    · rename_i hc
      cases h9
      refine ⟨rfl, rfl, ROK_use hR (by omega), ?_⟩
      refine keep_at hR hx hn1 (fun z => ?_)
      rw [ent_set]
      unfold newE
      rw [if_pos hc]
    · rename_i hc
      cases h9
      refine ⟨rfl, rfl, ROK_use hR (by omega), ?_⟩
      refine keep_at hR hx hn1 (fun z => ?_)
      rw [ent_set]
      unfold newE
      rw [if_neg hc]
  unfold mX0_keep at h
  cases hr : mRowL rs E c p g n 0 with
  | some i =>
    obtain ⟨-, a2, a3, -⟩ := mRowL_some n 0 i hr
    rw [hr] at h
    obtain ⟨b1, b2, b3, b4⟩ := fin i n f14 h (by omega) hn
    subst b1
    exact ⟨b3, hn, Or.inl ⟨i, by omega, a3, rfl, b2, b4⟩⟩
  | none =>
    have hno : ∀ a ∈ lsC n rs E, keyC c p g a = false := by
      intro a ha
      unfold lsC at ha
      obtain ⟨i, hi, rfl⟩ := List.mem_map.mp ha
      have := List.mem_range.mp hi
      exact mRowL_none n 0 hr i (by omega) (by omega)
    rw [hr] at h
    unfold mRow at h
    by_cases hN : N ≤ n
    · rw [if_pos hN] at h
      obtain ⟨b1, b2, b3, b4⟩ := fin (n - 1) n (f14 + 1) h (by omega) hn
      subst b1
      exact ⟨b3, hn, Or.inr (Or.inr ⟨hno, by omega, b2, b4⟩)⟩
    · rw [if_neg hN] at h
      obtain ⟨b1, b2, b3, b4⟩ := fin n (n + 1) f14 h (by omega) (by omega)
      rw [lsC_last] at b4
      exact ⟨b3, by omega, Or.inr (Or.inl ⟨hno, by omega, b2, b4⟩)⟩
/-- the class forgets: what stays, in its order -/
theorem for_ls {N : Nat} {LP : List Nat} {E : Nat → Nat → Int32} {w c p : Int32} : ∀ (j i t : Nat) (r : Nat → Option Nat), t ≤ i → i + j ≤ N → ROK N LP r →
    ROK N LP (mForL E w c p j i t r).2 ∧ (mForL E w c p j i t r).1 ≤ t + j ∧ lsC (mForL E w c p j i t r).1 (mForL E w c p j i t r).2 E = lsC t r E ++ ((List.range' i j).map (fun q => entE E (rowA r q))).filter (fun a => !meantC w c p a)
  | 0, i, t, r, h1, h2, hR => by
    refine ⟨hR, Nat.le_refl _, ?_⟩
    show lsC t r E = lsC t r E ++ []
    rw [List.append_nil]
  | j + 1, i, t, r, h1, h2, hR => by
    unfold mForL
    rw [List.range'_succ, List.map_cons]
    by_cases hm : mX0_isMeant E (rowA r i) w c p = 0
    · rw [if_pos hm]
      have hrow : ∀ q, rowA (va_up (va_up r i (some (rowA r t))) t (some (rowA r i))) q = if q = t then rowA r i else if q = i then rowA r t else rowA r q := by
        intro q
        unfold rowA
        by_cases h3 : q = t
        · subst h3
          rw [va_up_self, if_pos rfl]
          rfl
        · rw [va_up_ne _ _ h3, if_neg h3]
          by_cases h4 : q = i
          · subst h4
            rw [va_up_self, if_pos rfl]
            rfl
          · rw [va_up_ne _ _ h4, if_neg h4]
      have hR2 : ROK N LP (va_up (va_up r i (some (rowA r t))) t (some (rowA r i))) := by
        refine ⟨fun q hq => ?_, fun q1 q2 h3 h4 e => ?_⟩
        · rw [hrow]
          by_cases h3 : q = t
          · subst h3
            rw [va_up_self, if_pos rfl]
            exact ⟨rfl, (hR.1 i (by omega)).2⟩
          · rw [va_up_ne _ _ h3, if_neg h3]
            by_cases h4 : q = i
            · subst h4
              rw [va_up_self, if_pos rfl]
              exact ⟨rfl, (hR.1 t (by omega)).2⟩
            · rw [va_up_ne _ _ h4, if_neg h4]
              exact hR.1 q hq
        · rw [hrow, hrow] at e
          have inj := fun a b ha hb hab => hR.2 a b ha hb hab
          by_cases a1 : q1 = t <;> by_cases a2 : q2 = t
          · omega
          · rw [if_pos a1, if_neg a2] at e
            by_cases a3 : q2 = i
            · rw [if_pos a3] at e
              have := inj i t (by omega) (by omega) e
              omega
            · rw [if_neg a3] at e
              have := inj i q2 (by omega) (by omega) e
              omega
          · rw [if_neg a1, if_pos a2] at e
            by_cases a3 : q1 = i
            · rw [if_pos a3] at e
              have := inj t i (by omega) (by omega) e
              omega
            · rw [if_neg a3] at e
              have := inj q1 i (by omega) (by omega) e
              omega
          · rw [if_neg a1, if_neg a2] at e
            by_cases a3 : q1 = i <;> by_cases a4 : q2 = i
            · omega
            · rw [if_pos a3, if_neg a4] at e
              have := inj t q2 (by omega) (by omega) e
              omega
            · rw [if_neg a3, if_pos a4] at e
              have := inj q1 t (by omega) (by omega) e
              omega
            · rw [if_neg a3, if_neg a4] at e
              exact inj q1 q2 (by omega) (by omega) e
      obtain ⟨b1, b2, b3⟩ := for_ls (E := E) (w := w) (c := c) (p := p) j (i + 1) (t + 1) _ (by omega) (by omega) hR2
      refine ⟨b1, by omega, ?_⟩
      rw [b3, List.filter_cons_of_pos (by rw [meant_iff.mp hm]; rfl)]
      have e1 : lsC (t + 1) (va_up (va_up r i (some (rowA r t))) t (some (rowA r i))) E = lsC t r E ++ [entE E (rowA r i)] := by
        unfold lsC
        rw [List.range_succ, List.map_append]
        congr 1
        · apply List.map_congr_left
          intro q hq
          have := List.mem_range.mp hq
          rw [hrow, if_neg (by omega), if_neg (by omega)]
        · show [entE E (rowA (va_up (va_up r i (some (rowA r t))) t (some (rowA r i))) t)] = _
          rw [hrow, if_pos rfl]
      have e2 : (List.range' (i + 1) j).map (fun q => entE E (rowA (va_up (va_up r i (some (rowA r t))) t (some (rowA r i))) q)) = (List.range' (i + 1) j).map (fun q => entE E (rowA r q)) := by
        apply List.map_congr_left
        intro q hq
        have := (List.mem_range'_1.mp hq).1
        rw [hrow, if_neg (by omega), if_neg (by omega)]
      rw [e1, e2, List.append_assoc]
      rfl
    · rw [if_neg hm]
      obtain ⟨b1, b2, b3⟩ := for_ls (E := E) (w := w) (c := c) (p := p) j (i + 1) t r (by omega) (by omega) hR
      refine ⟨b1, by omega, ?_⟩
      rw [b3, List.filter_cons_of_neg]
      intro h9
      rw [Bool.not_eq_true', ← meant_iff] at h9
      exact hm h9
