/-! the reference's entries, in the order of their use -/
def fitM (c p : Int32) (a : Ent) : Bool := decide (a.1 = c) && decide ((p >>> (((8 : Int32) + ((4 : Int32) * a.2.1)) &&& 31)) = a.2.2.1)
def SO (so : List (Int32 × Ent)) (x : EST) (us : Nat) : Prop := so.Perm (lsM x) ∧ so.Pairwise (fun a b => b.1 < a.1) ∧ ∀ a ∈ so, a.1 ≤ nI us
theorem fits_fit {x : EST} {e : Nat} {c p : Int32} : mX5_fits c x.2.1 x.2.2.1 x.2.2.2.1 e p = 0 ↔ fitM c p (entM x e).2 = false := by
  unfold mX5_fits fitM entM
  dsimp only
  by_cases h1 : x.2.1 e = c
  · by_cases h2 : (p >>> (((8 : Int32) + ((4 : Int32) * x.2.2.1 e)) &&& 31)) = x.2.2.2.1 e
    · rw [if_pos h1, if_pos h2, decide_eq_true h1, decide_eq_true h2]
      exact ⟨fun h => absurd h (by decide), fun h => absurd h (by decide)⟩
    · rw [if_pos h1, if_neg h2, decide_eq_false h2, Bool.and_false]
      exact ⟨fun _ => rfl, fun _ => rfl⟩
  · rw [if_neg h1, decide_eq_false h1, Bool.false_and]
    exact ⟨fun _ => rfl, fun _ => rfl⟩
section SOL
variable {so : List (Int32 × Ent)} {x : EST} {us : Nat}
theorem SO.len (h : SO so x us) : so.length = x.1 := h.1.length_eq.trans ls_len
theorem SO.idx (h : SO so x us) {e : Nat} (he : e < x.1) : ∃ k, k < so.length ∧ so[k]? = some (entM x e) := by
  have hm : entM x e ∈ so := h.1.mem_iff.mpr (lsM_mem.mpr ⟨e, he, rfl⟩)
  obtain ⟨k, hk⟩ := List.getElem?_of_mem hm
  exact ⟨k, (List.getElem?_eq_some_iff.mp hk).1, hk⟩
theorem SO.inv (h : SO so x us) {k : Nat} {a : Int32 × Ent} (hk : so[k]? = some a) : ∃ e, e < x.1 ∧ entM x e = a := lsM_mem.mp (h.1.mem_iff.mp (List.mem_of_getElem? hk))
theorem SO.lt (h : SO so x us) {i j : Nat} {a b : Int32 × Ent} (hij : i < j) (hi : so[i]? = some a) (hj : so[j]? = some b) : b.1 < a.1 := by
  obtain ⟨h1, e1⟩ := List.getElem?_eq_some_iff.mp hi
  obtain ⟨h2, e2⟩ := List.getElem?_eq_some_iff.mp hj
  have := List.pairwise_iff_getElem.mp h.2.1 i j h1 h2 hij
  rw [e1, e2] at this
  exact this
theorem SO.inj (h : SO so x us) {i j : Nat} {a b : Int32 × Ent} (hi : so[i]? = some a) (hj : so[j]? = some b) (e : a.1 = b.1) : i = j := by
  rcases Nat.lt_trichotomy i j with h1 | h1 | h1
  · have := h.lt h1 hi hj
    rw [e] at this
    exact (Int32.lt_irrefl this).elim
  · exact h1
  · have := h.lt h1 hj hi
    rw [e] at this
    exact (Int32.lt_irrefl this).elim
theorem erase_perm {α : Type} : ∀ {l : List α} {k : Nat} {a : α}, l[k]? = some a → (a :: l.eraseIdx k).Perm l
  | [], k, a, h => by simp at h
  | b :: l, 0, a, h => by
    rw [List.getElem?_cons_zero] at h
    cases h
    exact List.Perm.refl _
  | b :: l, k + 1, a, h => by
    rw [List.getElem?_cons_succ] at h
    rw [List.eraseIdx_cons_succ]
    exact (List.Perm.swap _ _ _).trans (List.Perm.cons _ (erase_perm h))
theorem SO.drop (h : SO so x us) {k e : Nat} (he : e < x.1) (hk : so[k]? = some (entM x e)) : SO (so.eraseIdx k) (mDropT x e) us := by
  refine ⟨?_, h.2.1.sublist (List.eraseIdx_sublist so k), fun a ha => h.2.2 a ((List.eraseIdx_sublist so k).subset ha)⟩
  exact List.Perm.cons_inv ((erase_perm hk).trans (h.1.trans (lsM_drop he)))
theorem SO.gone (h : SO so x us) (mt : Int32 × Ent → Bool) : SO (so.filter (fun a => !mt a)) (gDrop mt x.1 x) us :=
  ⟨(h.1.filter _).trans (gDrop_all mt x).symm, h.2.1.sublist List.filter_sublist, fun a ha => h.2.2 a (List.mem_filter.mp ha).1⟩
theorem nI_up {us : Nat} (hu : us + 1 < 2 ^ 31) {v : Int32} (h : v ≤ nI us) : v < nI (us + 1) := Int32.lt_of_le_of_lt h (nI_lt (by omega) hu)
def useM (x : EST) (e us : Nat) : EST := (x.1, x.2.1, x.2.2.1, x.2.2.2.1, x.2.2.2.2.1, x.2.2.2.2.2.1, upd x.2.2.2.2.2.2.1 e (nI us), x.2.2.2.2.2.2.2)
theorem ent_use (x : EST) (e us j : Nat) : entM (useM x e us) j = if j = e then (nI us, (entM x e).2) else entM x j := by
  unfold useM entM
  dsimp only
  by_cases h : j = e
  · subst h
    rw [if_pos rfl, pk_us]
  · rw [if_neg h, pk_un h]
theorem SO.used (h : SO so x us) (hu : us + 1 < 2 ^ 31) {k e : Nat} (he : e < x.1) (hk : so[k]? = some (entM x e)) : SO ((nI (us + 1), (entM x e).2) :: so.eraseIdx k) (useM x e (us + 1)) (us + 1) := by
  obtain ⟨l, l1, l2⟩ := ls_pick (entM x) e x.1 he
  have e1 : lsM (useM x e (us + 1)) = (List.range x.1).map (fun j => if j = e then (nI (us + 1), (entM x e).2) else entM x j) := by
    unfold lsM
    apply List.map_congr_left
    intro j _
    exact ent_use x e (us + 1) j
  refine ⟨?_, ?_, ?_⟩
  · rw [e1]
    refine List.Perm.trans (List.Perm.cons _ ?_) (l2 _).symm
    exact List.Perm.cons_inv ((erase_perm hk).trans (h.1.trans l1))
  · refine List.pairwise_cons.mpr ⟨fun a ha => nI_up hu (h.2.2 a ((List.eraseIdx_sublist so k).subset ha)), h.2.1.sublist (List.eraseIdx_sublist so k)⟩
  · intro a ha
    rcases List.mem_cons.mp ha with rfl | ha
    · exact Int32.le_refl _
    · exact Int32.le_of_lt (nI_up hu (h.2.2 a ((List.eraseIdx_sublist so k).subset ha)))
def pushM (x : EST) (v : Ent) (us : Nat) : EST := (x.1 + 1, upd x.2.1 x.1 v.1, upd x.2.2.1 x.1 v.2.1, upd x.2.2.2.1 x.1 v.2.2.1, upd x.2.2.2.2.1 x.1 v.2.2.2.1, upd x.2.2.2.2.2.1 x.1 v.2.2.2.2.1, upd x.2.2.2.2.2.2.1 x.1 (nI us), upd x.2.2.2.2.2.2.2 x.1 v.2.2.2.2.2)
theorem ent_push (x : EST) (v : Ent) (us j : Nat) : entM (pushM x v us) j = if j = x.1 then (nI us, v) else entM x j := by
  unfold pushM entM
  dsimp only
  by_cases h : j = x.1
  · rw [if_pos h, h, pk_us, pk_us, pk_us, pk_us, pk_us, pk_us, pk_us]
  · rw [if_neg h, pk_un h, pk_un h, pk_un h, pk_un h, pk_un h, pk_un h, pk_un h]
theorem SO.pushed (h : SO so x us) (hu : us + 1 < 2 ^ 31) (v : Ent) : SO ((nI (us + 1), v) :: so) (pushM x v (us + 1)) (us + 1) := by
  have e1 : lsM (pushM x v (us + 1)) = lsM x ++ [(nI (us + 1), v)] := by
    unfold lsM
    rw [show (pushM x v (us + 1)).1 = x.1 + 1 from rfl, List.range_succ, List.map_append]
    congr 1
    · apply List.map_congr_left
      intro j hj
      have := List.mem_range.mp hj
      rw [ent_push, if_neg (by omega)]
    · show [entM (pushM x v (us + 1)) x.1] = _
      rw [ent_push, if_pos rfl]
  refine ⟨?_, ?_, ?_⟩
  · rw [e1]
    exact (List.Perm.cons _ h.1).trans (List.perm_append_singleton _ _).symm
  · exact List.pairwise_cons.mpr ⟨fun a ha => nI_up hu (h.2.2 a ha), h.2.1⟩
  · intro a ha
    rcases List.mem_cons.mp ha with rfl | ha
    · exact Int32.le_refl _
    · exact Int32.le_of_lt (nI_up hu (h.2.2 a ha))
end SOL
section MEF
variable {x : EST} {c p : Int32}
/-- the reference's search: the match that was used last -/
theorem mEF_spec : ∀ (j i : Nat) (bo : Option Nat), (bo = none → ∀ q, q < i → fitM c p (entM x q).2 = false) → (∀ b, bo = some b → b < i ∧ fitM c p (entM x b).2 = true ∧ ∀ q, q < i → fitM c p (entM x q).2 = true → (entM x q).1 ≤ (entM x b).1) →
    (mEF c x.2.1 x.2.2.1 x.2.2.2.1 x.2.2.2.2.2.2.1 p j i bo = none → ∀ q, q < i + j → fitM c p (entM x q).2 = false) ∧ (∀ b, mEF c x.2.1 x.2.2.1 x.2.2.2.1 x.2.2.2.2.2.2.1 p j i bo = some b → b < i + j ∧ fitM c p (entM x b).2 = true ∧ ∀ q, q < i + j → fitM c p (entM x q).2 = true → (entM x q).1 ≤ (entM x b).1)
  | 0, i, bo, h1, h2 => ⟨h1, h2⟩
  | j + 1, i, bo, h1, h2 => by
    unfold mEF
    rw [show i + (j + 1) = i + 1 + j by omega]
    by_cases hf : mX5_fits c x.2.1 x.2.2.1 x.2.2.2.1 i p = 0
    · rw [if_pos hf]
      have hf9 := fits_fit.mp hf
      refine mEF_spec j (i + 1) bo (fun h q hq => ?_) (fun b h => ?_)
      · by_cases e : q = i
        · subst e
          exact hf9
        · exact h1 h q (by omega)
      · obtain ⟨a1, a2, a3⟩ := h2 b h
        refine ⟨by omega, a2, fun q hq hq2 => ?_⟩
        by_cases e : q = i
        · subst e
          rw [hf9] at hq2
          cases hq2
        · exact a3 q (by omega) hq2
    · rw [if_neg hf]
      have hf9 : fitM c p (entM x i).2 = true := (Bool.not_eq_false _).mp (fun h9 => hf (fits_fit.mpr h9))
      cases bo with
      | none =>
        dsimp only
        refine mEF_spec j (i + 1) (some i) (fun h => by cases h) (fun b h => ?_)
        cases h
        refine ⟨by omega, hf9, fun q hq hq2 => ?_⟩
        by_cases e : q = i
        · subst e
          exact Int32.le_refl _
        · rw [h1 rfl q (by omega)] at hq2
          cases hq2
      | some b9 =>
        dsimp only
        obtain ⟨a1, a2, a3⟩ := h2 b9 rfl
        by_cases hu : x.2.2.2.2.2.2.1 i ≤ x.2.2.2.2.2.2.1 b9
        · rw [if_pos hu]
          refine mEF_spec j (i + 1) (some b9) (fun h => by cases h) (fun b h => ?_)
          cases h
          refine ⟨by omega, a2, fun q hq hq2 => ?_⟩
          by_cases e : q = i
          · subst e
            exact hu
          · exact a3 q (by omega) hq2
        · rw [if_neg hu]
          refine mEF_spec j (i + 1) (some i) (fun h => by cases h) (fun b h => ?_)
          cases h
          refine ⟨by omega, hf9, fun q hq hq2 => ?_⟩
          by_cases e : q = i
          · subst e
            exact Int32.le_refl _
          · exact Int32.le_of_lt (Int32.lt_of_le_of_lt (a3 q (by omega) hq2) (Int32.not_le.mp hu))
theorem mOld_spec {u : Nat → Int32} : ∀ (j i o : Nat), o < i → (∀ q, q < i → u o ≤ u q) → mOld u j i o < i + j ∧ ∀ q, q < i + j → u (mOld u j i o) ≤ u q
  | 0, i, o, h1, h2 => ⟨h1, h2⟩
  | j + 1, i, o, h1, h2 => by
    unfold mOld
    rw [show i + (j + 1) = i + 1 + j by omega]
    by_cases h : u o ≤ u i
    · rw [if_pos h]
      refine mOld_spec j (i + 1) o (by omega) (fun q hq => ?_)
      by_cases e : q = i
      · subst e
        exact h
      · exact h2 q (by omega)
    · rw [if_neg h]
      refine mOld_spec j (i + 1) i (by omega) (fun q hq => ?_)
      by_cases e : q = i
      · subst e
        exact Int32.le_refl _
      · exact Int32.le_trans (Int32.le_of_lt (Int32.not_le.mp h)) (h2 q (by omega))
end MEF
